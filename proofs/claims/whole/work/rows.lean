section
-- ===== PART A: goes FIRST, ahead of the names: the tables' words, and 'selects' of the private methods out of them =====
/-- a private method of a class that the tables say can be made, by its rows of tables_1 -/
def lw_okq (q : MethodName × Nat) : Prop := (q.1.cls ≠ "java/lang/invoke/MethodHandle" ∧ q.1.cls ≠ "java/lang/invoke/VarHandle") ∧ Cond.instantiable q.1.cls q.2 ∈ tables_1 ∧ Cond.privateMethod q.1 ∈ tables_1 ∧ Cond.instanceMethod q.1 ∈ tables_1
theorem lw_p0 : lw_okq (⟨"QuiltPatches$Reader", "startAnew", "(LQuiltPatches$Told;)V"⟩, 8) := ⟨⟨by decide +kernel, by decide +kernel⟩, List.mem_of_getElem? (i := 22) (by decide +kernel), List.mem_of_getElem? (i := 300) (by decide +kernel), List.mem_of_getElem? (i := 301) (by decide +kernel)⟩
theorem lw_p1 : lw_okq (⟨"QuiltPatches$Reader", "readToken", "([II)V"⟩, 8) := ⟨⟨by decide +kernel, by decide +kernel⟩, List.mem_of_getElem? (i := 22) (by decide +kernel), List.mem_of_getElem? (i := 308) (by decide +kernel), List.mem_of_getElem? (i := 309) (by decide +kernel)⟩
theorem lw_p2 : lw_okq (⟨"QuiltPatches$Reader", "readNumber", "([II)V"⟩, 8) := ⟨⟨by decide +kernel, by decide +kernel⟩, List.mem_of_getElem? (i := 22) (by decide +kernel), List.mem_of_getElem? (i := 315) (by decide +kernel), List.mem_of_getElem? (i := 316) (by decide +kernel)⟩
theorem lw_p3 : lw_okq (⟨"QuiltPatches$Reader", "readItem", "(LQuiltPatches$Told;[II)Z"⟩, 8) := ⟨⟨by decide +kernel, by decide +kernel⟩, List.mem_of_getElem? (i := 22) (by decide +kernel), List.mem_of_getElem? (i := 322) (by decide +kernel), List.mem_of_getElem? (i := 323) (by decide +kernel)⟩
theorem lw_p4 : lw_okq (⟨"QuiltPatches$Reader", "mayStart", "(LQuiltPatches$Told;I)Z"⟩, 8) := ⟨⟨by decide +kernel, by decide +kernel⟩, List.mem_of_getElem? (i := 22) (by decide +kernel), List.mem_of_getElem? (i := 326) (by decide +kernel), List.mem_of_getElem? (i := 327) (by decide +kernel)⟩
theorem lw_p5 : lw_okq (⟨"QuiltPatches$Reader", "put", "(LQuiltPatches$Told;III)V"⟩, 8) := ⟨⟨by decide +kernel, by decide +kernel⟩, List.mem_of_getElem? (i := 22) (by decide +kernel), List.mem_of_getElem? (i := 341) (by decide +kernel), List.mem_of_getElem? (i := 342) (by decide +kernel)⟩
theorem lw_p6 : lw_okq (⟨"QuiltPatches$Reader", "putKind", "(LQuiltPatches$Told;II)V"⟩, 8) := ⟨⟨by decide +kernel, by decide +kernel⟩, List.mem_of_getElem? (i := 22) (by decide +kernel), List.mem_of_getElem? (i := 345) (by decide +kernel), List.mem_of_getElem? (i := 346) (by decide +kernel)⟩
theorem lw_p7 : lw_okq (⟨"QuiltPatches", "forgetImages", "()V"⟩, 16) := ⟨⟨by decide +kernel, by decide +kernel⟩, List.mem_of_getElem? (i := 14) (by decide +kernel), List.mem_of_getElem? (i := 373) (by decide +kernel), List.mem_of_getElem? (i := 374) (by decide +kernel)⟩
theorem lw_p8 : lw_okq (⟨"QuiltPatches", "isKind", "(I)Z"⟩, 16) := ⟨⟨by decide +kernel, by decide +kernel⟩, List.mem_of_getElem? (i := 14) (by decide +kernel), List.mem_of_getElem? (i := 381) (by decide +kernel), List.mem_of_getElem? (i := 382) (by decide +kernel)⟩
theorem lw_p9 : lw_okq (⟨"QuiltPatches", "isBlock", "(I)Z"⟩, 16) := ⟨⟨by decide +kernel, by decide +kernel⟩, List.mem_of_getElem? (i := 14) (by decide +kernel), List.mem_of_getElem? (i := 394) (by decide +kernel), List.mem_of_getElem? (i := 395) (by decide +kernel)⟩
theorem lw_p10 : lw_okq (⟨"QuiltPatches", "isSquare", "(I)Z"⟩, 16) := ⟨⟨by decide +kernel, by decide +kernel⟩, List.mem_of_getElem? (i := 14) (by decide +kernel), List.mem_of_getElem? (i := 403) (by decide +kernel), List.mem_of_getElem? (i := 404) (by decide +kernel)⟩
theorem lw_p11 : lw_okq (⟨"QuiltPatches", "whyNot", "(II)I"⟩, 16) := ⟨⟨by decide +kernel, by decide +kernel⟩, List.mem_of_getElem? (i := 14) (by decide +kernel), List.mem_of_getElem? (i := 416) (by decide +kernel), List.mem_of_getElem? (i := 417) (by decide +kernel)⟩
theorem lw_p12 : lw_okq (⟨"QuiltPatches", "meetsNeighbours", "(II)Z"⟩, 16) := ⟨⟨by decide +kernel, by decide +kernel⟩, List.mem_of_getElem? (i := 14) (by decide +kernel), List.mem_of_getElem? (i := 420) (by decide +kernel), List.mem_of_getElem? (i := 421) (by decide +kernel)⟩
theorem lw_p13 : lw_okq (⟨"QuiltPatches", "keepsRim", "(II)Z"⟩, 16) := ⟨⟨by decide +kernel, by decide +kernel⟩, List.mem_of_getElem? (i := 14) (by decide +kernel), List.mem_of_getElem? (i := 431) (by decide +kernel), List.mem_of_getElem? (i := 432) (by decide +kernel)⟩
theorem lw_p14 : lw_okq (⟨"QuiltPatches", "remember", "()V"⟩, 16) := ⟨⟨by decide +kernel, by decide +kernel⟩, List.mem_of_getElem? (i := 14) (by decide +kernel), List.mem_of_getElem? (i := 439) (by decide +kernel), List.mem_of_getElem? (i := 440) (by decide +kernel)⟩
theorem lw_p15 : lw_okq (⟨"QuiltPatches", "openSquares", "()I"⟩, 16) := ⟨⟨by decide +kernel, by decide +kernel⟩, List.mem_of_getElem? (i := 14) (by decide +kernel), List.mem_of_getElem? (i := 448) (by decide +kernel), List.mem_of_getElem? (i := 449) (by decide +kernel)⟩
def lw_privs_1 : List (MethodName × Nat) := [(⟨"QuiltPatches$Reader", "startAnew", "(LQuiltPatches$Told;)V"⟩, 8), (⟨"QuiltPatches$Reader", "readToken", "([II)V"⟩, 8), (⟨"QuiltPatches$Reader", "readNumber", "([II)V"⟩, 8), (⟨"QuiltPatches$Reader", "readItem", "(LQuiltPatches$Told;[II)Z"⟩, 8), (⟨"QuiltPatches$Reader", "mayStart", "(LQuiltPatches$Told;I)Z"⟩, 8), (⟨"QuiltPatches$Reader", "put", "(LQuiltPatches$Told;III)V"⟩, 8), (⟨"QuiltPatches$Reader", "putKind", "(LQuiltPatches$Told;II)V"⟩, 8), (⟨"QuiltPatches", "forgetImages", "()V"⟩, 16), (⟨"QuiltPatches", "isKind", "(I)Z"⟩, 16), (⟨"QuiltPatches", "isBlock", "(I)Z"⟩, 16), (⟨"QuiltPatches", "isSquare", "(I)Z"⟩, 16), (⟨"QuiltPatches", "whyNot", "(II)I"⟩, 16), (⟨"QuiltPatches", "meetsNeighbours", "(II)Z"⟩, 16), (⟨"QuiltPatches", "keepsRim", "(II)Z"⟩, 16), (⟨"QuiltPatches", "remember", "()V"⟩, 16), (⟨"QuiltPatches", "openSquares", "()I"⟩, 16)]
theorem lw_r1 : ∀ q ∈ lw_privs_1, lw_okq q := List.forall_mem_cons.mpr ⟨lw_p0, List.forall_mem_cons.mpr ⟨lw_p1, List.forall_mem_cons.mpr ⟨lw_p2, List.forall_mem_cons.mpr ⟨lw_p3, List.forall_mem_cons.mpr ⟨lw_p4, List.forall_mem_cons.mpr ⟨lw_p5, List.forall_mem_cons.mpr ⟨lw_p6, List.forall_mem_cons.mpr ⟨lw_p7, List.forall_mem_cons.mpr ⟨lw_p8, List.forall_mem_cons.mpr ⟨lw_p9, List.forall_mem_cons.mpr ⟨lw_p10, List.forall_mem_cons.mpr ⟨lw_p11, List.forall_mem_cons.mpr ⟨lw_p12, List.forall_mem_cons.mpr ⟨lw_p13, List.forall_mem_cons.mpr ⟨lw_p14, List.forall_mem_cons.mpr ⟨lw_p15, fun _ h => absurd h List.not_mem_nil⟩⟩⟩⟩⟩⟩⟩⟩⟩⟩⟩⟩⟩⟩⟩⟩
theorem lw_p16 : lw_okq (⟨"QuiltPatches$Winnow", "supported", "(LQuiltPatches$Told;LQuiltPatches$Layout;I)I"⟩, 1) := ⟨⟨by decide +kernel, by decide +kernel⟩, List.mem_of_getElem? (i := 154) (by decide +kernel), List.mem_of_getElem? (i := 506) (by decide +kernel), List.mem_of_getElem? (i := 507) (by decide +kernel)⟩
theorem lw_p17 : lw_okq (⟨"QuiltPatches", "quiltsOf", "(LQuiltPatches$Layout;I)I"⟩, 16) := ⟨⟨by decide +kernel, by decide +kernel⟩, List.mem_of_getElem? (i := 14) (by decide +kernel), List.mem_of_getElem? (i := 542) (by decide +kernel), List.mem_of_getElem? (i := 543) (by decide +kernel)⟩
theorem lw_p18 : lw_okq (⟨"QuiltPatches$Finder", "roomInAll", "(LQuiltPatches$Told;)I"⟩, 9) := ⟨⟨by decide +kernel, by decide +kernel⟩, List.mem_of_getElem? (i := 166) (by decide +kernel), List.mem_of_getElem? (i := 554) (by decide +kernel), List.mem_of_getElem? (i := 555) (by decide +kernel)⟩
theorem lw_p19 : lw_okq (⟨"QuiltPatches$Finder", "giveFrom", "(LQuiltPatches$Told;I)V"⟩, 9) := ⟨⟨by decide +kernel, by decide +kernel⟩, List.mem_of_getElem? (i := 166) (by decide +kernel), List.mem_of_getElem? (i := 562) (by decide +kernel), List.mem_of_getElem? (i := 563) (by decide +kernel)⟩
theorem lw_p20 : lw_okq (⟨"QuiltPatches$Finder", "meetingEarlier", "(LQuiltPatches$Told;I)I"⟩, 9) := ⟨⟨by decide +kernel, by decide +kernel⟩, List.mem_of_getElem? (i := 166) (by decide +kernel), List.mem_of_getElem? (i := 567) (by decide +kernel), List.mem_of_getElem? (i := 568) (by decide +kernel)⟩
theorem lw_p21 : lw_okq (⟨"QuiltPatches$Finder", "tryBlock", "(LQuiltPatches$Told;II)V"⟩, 9) := ⟨⟨by decide +kernel, by decide +kernel⟩, List.mem_of_getElem? (i := 166) (by decide +kernel), List.mem_of_getElem? (i := 574) (by decide +kernel), List.mem_of_getElem? (i := 575) (by decide +kernel)⟩
theorem lw_p22 : lw_okq (⟨"QuiltPatches", "sameWithAnotherAt", "(II)I"⟩, 16) := ⟨⟨by decide +kernel, by decide +kernel⟩, List.mem_of_getElem? (i := 14) (by decide +kernel), List.mem_of_getElem? (i := 587) (by decide +kernel), List.mem_of_getElem? (i := 588) (by decide +kernel)⟩
theorem lw_p23 : lw_okq (⟨"QuiltPatches$Cloth", "workOut", "(II)V"⟩, 6) := ⟨⟨by decide +kernel, by decide +kernel⟩, List.mem_of_getElem? (i := 201) (by decide +kernel), List.mem_of_getElem? (i := 617) (by decide +kernel), List.mem_of_getElem? (i := 618) (by decide +kernel)⟩
theorem lw_p24 : lw_okq (⟨"QuiltPatches$Cloth", "pieceLike", "(II)I"⟩, 6) := ⟨⟨by decide +kernel, by decide +kernel⟩, List.mem_of_getElem? (i := 201) (by decide +kernel), List.mem_of_getElem? (i := 624) (by decide +kernel), List.mem_of_getElem? (i := 625) (by decide +kernel)⟩
theorem lw_p25 : lw_okq (⟨"QuiltPatches$Cloth", "tryCut", "(IIII)V"⟩, 6) := ⟨⟨by decide +kernel, by decide +kernel⟩, List.mem_of_getElem? (i := 201) (by decide +kernel), List.mem_of_getElem? (i := 630) (by decide +kernel), List.mem_of_getElem? (i := 631) (by decide +kernel)⟩
theorem lw_p26 : lw_okq (⟨"QuiltPatchesModel", "begins", "()V"⟩, 30) := ⟨⟨by decide +kernel, by decide +kernel⟩, List.mem_of_getElem? (i := 662) (by decide +kernel), List.mem_of_getElem? (i := 668) (by decide +kernel), List.mem_of_getElem? (i := 669) (by decide +kernel)⟩
theorem lw_p27 : lw_okq (⟨"QuiltPatchesModel", "becomes", "()V"⟩, 30) := ⟨⟨by decide +kernel, by decide +kernel⟩, List.mem_of_getElem? (i := 662) (by decide +kernel), List.mem_of_getElem? (i := 672) (by decide +kernel), List.mem_of_getElem? (i := 673) (by decide +kernel)⟩
theorem lw_p28 : lw_okq (⟨"QuiltPatchesModel", "here", "()I"⟩, 30) := ⟨⟨by decide +kernel, by decide +kernel⟩, List.mem_of_getElem? (i := 662) (by decide +kernel), List.mem_of_getElem? (i := 782) (by decide +kernel), List.mem_of_getElem? (i := 783) (by decide +kernel)⟩
theorem lw_p29 : lw_okq (⟨"QuiltPatchesModel", "item", "()Z"⟩, 30) := ⟨⟨by decide +kernel, by decide +kernel⟩, List.mem_of_getElem? (i := 662) (by decide +kernel), List.mem_of_getElem? (i := 786) (by decide +kernel), List.mem_of_getElem? (i := 787) (by decide +kernel)⟩
theorem lw_p30 : lw_okq (⟨"QuiltPatchesModel", "readsKind", "()Z"⟩, 30) := ⟨⟨by decide +kernel, by decide +kernel⟩, List.mem_of_getElem? (i := 662) (by decide +kernel), List.mem_of_getElem? (i := 790) (by decide +kernel), List.mem_of_getElem? (i := 791) (by decide +kernel)⟩
theorem lw_p31 : lw_okq (⟨"QuiltPatchesModel", "reads", "(II)Z"⟩, 30) := ⟨⟨by decide +kernel, by decide +kernel⟩, List.mem_of_getElem? (i := 662) (by decide +kernel), List.mem_of_getElem? (i := 794) (by decide +kernel), List.mem_of_getElem? (i := 795) (by decide +kernel)⟩
def lw_privs_2 : List (MethodName × Nat) := [(⟨"QuiltPatches$Winnow", "supported", "(LQuiltPatches$Told;LQuiltPatches$Layout;I)I"⟩, 1), (⟨"QuiltPatches", "quiltsOf", "(LQuiltPatches$Layout;I)I"⟩, 16), (⟨"QuiltPatches$Finder", "roomInAll", "(LQuiltPatches$Told;)I"⟩, 9), (⟨"QuiltPatches$Finder", "giveFrom", "(LQuiltPatches$Told;I)V"⟩, 9), (⟨"QuiltPatches$Finder", "meetingEarlier", "(LQuiltPatches$Told;I)I"⟩, 9), (⟨"QuiltPatches$Finder", "tryBlock", "(LQuiltPatches$Told;II)V"⟩, 9), (⟨"QuiltPatches", "sameWithAnotherAt", "(II)I"⟩, 16), (⟨"QuiltPatches$Cloth", "workOut", "(II)V"⟩, 6), (⟨"QuiltPatches$Cloth", "pieceLike", "(II)I"⟩, 6), (⟨"QuiltPatches$Cloth", "tryCut", "(IIII)V"⟩, 6), (⟨"QuiltPatchesModel", "begins", "()V"⟩, 30), (⟨"QuiltPatchesModel", "becomes", "()V"⟩, 30), (⟨"QuiltPatchesModel", "here", "()I"⟩, 30), (⟨"QuiltPatchesModel", "item", "()Z"⟩, 30), (⟨"QuiltPatchesModel", "readsKind", "()Z"⟩, 30), (⟨"QuiltPatchesModel", "reads", "(II)Z"⟩, 30)]
theorem lw_r2 : ∀ q ∈ lw_privs_2, lw_okq q := List.forall_mem_cons.mpr ⟨lw_p16, List.forall_mem_cons.mpr ⟨lw_p17, List.forall_mem_cons.mpr ⟨lw_p18, List.forall_mem_cons.mpr ⟨lw_p19, List.forall_mem_cons.mpr ⟨lw_p20, List.forall_mem_cons.mpr ⟨lw_p21, List.forall_mem_cons.mpr ⟨lw_p22, List.forall_mem_cons.mpr ⟨lw_p23, List.forall_mem_cons.mpr ⟨lw_p24, List.forall_mem_cons.mpr ⟨lw_p25, List.forall_mem_cons.mpr ⟨lw_p26, List.forall_mem_cons.mpr ⟨lw_p27, List.forall_mem_cons.mpr ⟨lw_p28, List.forall_mem_cons.mpr ⟨lw_p29, List.forall_mem_cons.mpr ⟨lw_p30, List.forall_mem_cons.mpr ⟨lw_p31, fun _ h => absurd h List.not_mem_nil⟩⟩⟩⟩⟩⟩⟩⟩⟩⟩⟩⟩⟩⟩⟩⟩
theorem lw_p32 : lw_okq (⟨"QuiltPatchesModel", "readsOnce", "(IIIII)Z"⟩, 30) := ⟨⟨by decide +kernel, by decide +kernel⟩, List.mem_of_getElem? (i := 662) (by decide +kernel), List.mem_of_getElem? (i := 798) (by decide +kernel), List.mem_of_getElem? (i := 799) (by decide +kernel)⟩
theorem lw_p33 : lw_okq (⟨"QuiltPatchesModel", "isKind", "(I)Z"⟩, 30) := ⟨⟨by decide +kernel, by decide +kernel⟩, List.mem_of_getElem? (i := 662) (by decide +kernel), List.mem_of_getElem? (i := 806) (by decide +kernel), List.mem_of_getElem? (i := 807) (by decide +kernel)⟩
theorem lw_p34 : lw_okq (⟨"QuiltPatchesModel", "tries", "()V"⟩, 30) := ⟨⟨by decide +kernel, by decide +kernel⟩, List.mem_of_getElem? (i := 662) (by decide +kernel), List.mem_of_getElem? (i := 810) (by decide +kernel), List.mem_of_getElem? (i := 811) (by decide +kernel)⟩
theorem lw_p35 : lw_okq (⟨"QuiltPatchesModel", "leftOf", "(I)I"⟩, 30) := ⟨⟨by decide +kernel, by decide +kernel⟩, List.mem_of_getElem? (i := 662) (by decide +kernel), List.mem_of_getElem? (i := 814) (by decide +kernel), List.mem_of_getElem? (i := 815) (by decide +kernel)⟩
theorem lw_p36 : lw_okq (⟨"QuiltPatchesModel", "isBlock", "(I)Z"⟩, 30) := ⟨⟨by decide +kernel, by decide +kernel⟩, List.mem_of_getElem? (i := 662) (by decide +kernel), List.mem_of_getElem? (i := 822) (by decide +kernel), List.mem_of_getElem? (i := 823) (by decide +kernel)⟩
theorem lw_p37 : lw_okq (⟨"QuiltPatchesModel", "edge", "(II)I"⟩, 30) := ⟨⟨by decide +kernel, by decide +kernel⟩, List.mem_of_getElem? (i := 662) (by decide +kernel), List.mem_of_getElem? (i := 826) (by decide +kernel), List.mem_of_getElem? (i := 827) (by decide +kernel)⟩
theorem lw_p38 : lw_okq (⟨"QuiltPatchesModel", "isPlain", "(I)Z"⟩, 30) := ⟨⟨by decide +kernel, by decide +kernel⟩, List.mem_of_getElem? (i := 662) (by decide +kernel), List.mem_of_getElem? (i := 830) (by decide +kernel), List.mem_of_getElem? (i := 831) (by decide +kernel)⟩
theorem lw_p39 : lw_okq (⟨"QuiltPatchesModel", "isSquare", "(I)Z"⟩, 30) := ⟨⟨by decide +kernel, by decide +kernel⟩, List.mem_of_getElem? (i := 662) (by decide +kernel), List.mem_of_getElem? (i := 838) (by decide +kernel), List.mem_of_getElem? (i := 839) (by decide +kernel)⟩
theorem lw_p40 : lw_okq (⟨"QuiltPatchesModel", "squares", "()I"⟩, 30) := ⟨⟨by decide +kernel, by decide +kernel⟩, List.mem_of_getElem? (i := 662) (by decide +kernel), List.mem_of_getElem? (i := 842) (by decide +kernel), List.mem_of_getElem? (i := 843) (by decide +kernel)⟩
theorem lw_p41 : lw_okq (⟨"QuiltPatchesModel", "whyNot", "(II)I"⟩, 30) := ⟨⟨by decide +kernel, by decide +kernel⟩, List.mem_of_getElem? (i := 662) (by decide +kernel), List.mem_of_getElem? (i := 846) (by decide +kernel), List.mem_of_getElem? (i := 847) (by decide +kernel)⟩
theorem lw_p42 : lw_okq (⟨"QuiltPatchesModel", "beside", "(II)I"⟩, 30) := ⟨⟨by decide +kernel, by decide +kernel⟩, List.mem_of_getElem? (i := 662) (by decide +kernel), List.mem_of_getElem? (i := 850) (by decide +kernel), List.mem_of_getElem? (i := 851) (by decide +kernel)⟩
theorem lw_p43 : lw_okq (⟨"QuiltPatchesModel", "hueOf", "(I)I"⟩, 30) := ⟨⟨by decide +kernel, by decide +kernel⟩, List.mem_of_getElem? (i := 662) (by decide +kernel), List.mem_of_getElem? (i := 854) (by decide +kernel), List.mem_of_getElem? (i := 855) (by decide +kernel)⟩
theorem lw_p44 : lw_okq (⟨"QuiltPatchesModel", "ofHue", "(I)I"⟩, 30) := ⟨⟨by decide +kernel, by decide +kernel⟩, List.mem_of_getElem? (i := 662) (by decide +kernel), List.mem_of_getElem? (i := 858) (by decide +kernel), List.mem_of_getElem? (i := 859) (by decide +kernel)⟩
theorem lw_p45 : lw_okq (⟨"QuiltPatchesModel", "notes", "()V"⟩, 30) := ⟨⟨by decide +kernel, by decide +kernel⟩, List.mem_of_getElem? (i := 662) (by decide +kernel), List.mem_of_getElem? (i := 862) (by decide +kernel), List.mem_of_getElem? (i := 863) (by decide +kernel)⟩
theorem lw_p46 : lw_okq (⟨"QuiltPatchesModel", "open", "()I"⟩, 30) := ⟨⟨by decide +kernel, by decide +kernel⟩, List.mem_of_getElem? (i := 662) (by decide +kernel), List.mem_of_getElem? (i := 866) (by decide +kernel), List.mem_of_getElem? (i := 867) (by decide +kernel)⟩
theorem lw_p47 : lw_okq (⟨"QuiltPatchesModel", "winnows", "()V"⟩, 30) := ⟨⟨by decide +kernel, by decide +kernel⟩, List.mem_of_getElem? (i := 662) (by decide +kernel), List.mem_of_getElem? (i := 898) (by decide +kernel), List.mem_of_getElem? (i := 899) (by decide +kernel)⟩
def lw_privs_3 : List (MethodName × Nat) := [(⟨"QuiltPatchesModel", "readsOnce", "(IIIII)Z"⟩, 30), (⟨"QuiltPatchesModel", "isKind", "(I)Z"⟩, 30), (⟨"QuiltPatchesModel", "tries", "()V"⟩, 30), (⟨"QuiltPatchesModel", "leftOf", "(I)I"⟩, 30), (⟨"QuiltPatchesModel", "isBlock", "(I)Z"⟩, 30), (⟨"QuiltPatchesModel", "edge", "(II)I"⟩, 30), (⟨"QuiltPatchesModel", "isPlain", "(I)Z"⟩, 30), (⟨"QuiltPatchesModel", "isSquare", "(I)Z"⟩, 30), (⟨"QuiltPatchesModel", "squares", "()I"⟩, 30), (⟨"QuiltPatchesModel", "whyNot", "(II)I"⟩, 30), (⟨"QuiltPatchesModel", "beside", "(II)I"⟩, 30), (⟨"QuiltPatchesModel", "hueOf", "(I)I"⟩, 30), (⟨"QuiltPatchesModel", "ofHue", "(I)I"⟩, 30), (⟨"QuiltPatchesModel", "notes", "()V"⟩, 30), (⟨"QuiltPatchesModel", "open", "()I"⟩, 30), (⟨"QuiltPatchesModel", "winnows", "()V"⟩, 30)]
theorem lw_r3 : ∀ q ∈ lw_privs_3, lw_okq q := List.forall_mem_cons.mpr ⟨lw_p32, List.forall_mem_cons.mpr ⟨lw_p33, List.forall_mem_cons.mpr ⟨lw_p34, List.forall_mem_cons.mpr ⟨lw_p35, List.forall_mem_cons.mpr ⟨lw_p36, List.forall_mem_cons.mpr ⟨lw_p37, List.forall_mem_cons.mpr ⟨lw_p38, List.forall_mem_cons.mpr ⟨lw_p39, List.forall_mem_cons.mpr ⟨lw_p40, List.forall_mem_cons.mpr ⟨lw_p41, List.forall_mem_cons.mpr ⟨lw_p42, List.forall_mem_cons.mpr ⟨lw_p43, List.forall_mem_cons.mpr ⟨lw_p44, List.forall_mem_cons.mpr ⟨lw_p45, List.forall_mem_cons.mpr ⟨lw_p46, List.forall_mem_cons.mpr ⟨lw_p47, fun _ h => absurd h List.not_mem_nil⟩⟩⟩⟩⟩⟩⟩⟩⟩⟩⟩⟩⟩⟩⟩⟩
theorem lw_p48 : lw_okq (⟨"QuiltPatchesModel", "stays", "(II)Z"⟩, 30) := ⟨⟨by decide +kernel, by decide +kernel⟩, List.mem_of_getElem? (i := 662) (by decide +kernel), List.mem_of_getElem? (i := 902) (by decide +kernel), List.mem_of_getElem? (i := 903) (by decide +kernel)⟩
theorem lw_p49 : lw_okq (⟨"QuiltPatchesModel", "has", "(III)Z"⟩, 30) := ⟨⟨by decide +kernel, by decide +kernel⟩, List.mem_of_getElem? (i := 662) (by decide +kernel), List.mem_of_getElem? (i := 906) (by decide +kernel), List.mem_of_getElem? (i := 907) (by decide +kernel)⟩
theorem lw_p50 : lw_okq (⟨"QuiltPatchesModel", "hueAt", "(I)I"⟩, 30) := ⟨⟨by decide +kernel, by decide +kernel⟩, List.mem_of_getElem? (i := 662) (by decide +kernel), List.mem_of_getElem? (i := 917) (by decide +kernel), List.mem_of_getElem? (i := 918) (by decide +kernel)⟩
theorem lw_p51 : lw_okq (⟨"QuiltPatchesModel", "startsQuilts", "()V"⟩, 30) := ⟨⟨by decide +kernel, by decide +kernel⟩, List.mem_of_getElem? (i := 662) (by decide +kernel), List.mem_of_getElem? (i := 925) (by decide +kernel), List.mem_of_getElem? (i := 926) (by decide +kernel)⟩
theorem lw_p52 : lw_okq (⟨"QuiltPatchesModel", "nextQuilt", "()Z"⟩, 30) := ⟨⟨by decide +kernel, by decide +kernel⟩, List.mem_of_getElem? (i := 662) (by decide +kernel), List.mem_of_getElem? (i := 929) (by decide +kernel), List.mem_of_getElem? (i := 930) (by decide +kernel)⟩
theorem lw_p53 : lw_okq (⟨"QuiltPatchesModel", "canBe", "(II)Z"⟩, 30) := ⟨⟨by decide +kernel, by decide +kernel⟩, List.mem_of_getElem? (i := 662) (by decide +kernel), List.mem_of_getElem? (i := 933) (by decide +kernel), List.mem_of_getElem? (i := 934) (by decide +kernel)⟩
theorem lw_p54 : lw_okq (⟨"QuiltPatchesModel", "side", "(IZ)I"⟩, 30) := ⟨⟨by decide +kernel, by decide +kernel⟩, List.mem_of_getElem? (i := 662) (by decide +kernel), List.mem_of_getElem? (i := 957) (by decide +kernel), List.mem_of_getElem? (i := 958) (by decide +kernel)⟩
theorem lw_p55 : lw_okq (⟨"QuiltPatchesModel", "laysCloth", "()V"⟩, 30) := ⟨⟨by decide +kernel, by decide +kernel⟩, List.mem_of_getElem? (i := 662) (by decide +kernel), List.mem_of_getElem? (i := 968) (by decide +kernel), List.mem_of_getElem? (i := 969) (by decide +kernel)⟩
theorem lw_p56 : lw_okq (⟨"QuiltPatchesModel", "laysRectangle", "(II)V"⟩, 30) := ⟨⟨by decide +kernel, by decide +kernel⟩, List.mem_of_getElem? (i := 662) (by decide +kernel), List.mem_of_getElem? (i := 972) (by decide +kernel), List.mem_of_getElem? (i := 973) (by decide +kernel)⟩
theorem lw_p57 : lw_okq (⟨"QuiltPatchesModel", "pieceOf", "(II)I"⟩, 30) := ⟨⟨by decide +kernel, by decide +kernel⟩, List.mem_of_getElem? (i := 662) (by decide +kernel), List.mem_of_getElem? (i := 976) (by decide +kernel), List.mem_of_getElem? (i := 977) (by decide +kernel)⟩
theorem lw_p58 : lw_okq (⟨"QuiltPatchesModel", "laysCut", "(IIII)V"⟩, 30) := ⟨⟨by decide +kernel, by decide +kernel⟩, List.mem_of_getElem? (i := 662) (by decide +kernel), List.mem_of_getElem? (i := 980) (by decide +kernel), List.mem_of_getElem? (i := 981) (by decide +kernel)⟩
theorem lw_p59 : lw_okq (⟨"QuiltPatchesModel", "hues", "()I"⟩, 30) := ⟨⟨by decide +kernel, by decide +kernel⟩, List.mem_of_getElem? (i := 662) (by decide +kernel), List.mem_of_getElem? (i := 1004) (by decide +kernel), List.mem_of_getElem? (i := 1005) (by decide +kernel)⟩
def lw_privs_4 : List (MethodName × Nat) := [(⟨"QuiltPatchesModel", "stays", "(II)Z"⟩, 30), (⟨"QuiltPatchesModel", "has", "(III)Z"⟩, 30), (⟨"QuiltPatchesModel", "hueAt", "(I)I"⟩, 30), (⟨"QuiltPatchesModel", "startsQuilts", "()V"⟩, 30), (⟨"QuiltPatchesModel", "nextQuilt", "()Z"⟩, 30), (⟨"QuiltPatchesModel", "canBe", "(II)Z"⟩, 30), (⟨"QuiltPatchesModel", "side", "(IZ)I"⟩, 30), (⟨"QuiltPatchesModel", "laysCloth", "()V"⟩, 30), (⟨"QuiltPatchesModel", "laysRectangle", "(II)V"⟩, 30), (⟨"QuiltPatchesModel", "pieceOf", "(II)I"⟩, 30), (⟨"QuiltPatchesModel", "laysCut", "(IIII)V"⟩, 30), (⟨"QuiltPatchesModel", "hues", "()I"⟩, 30)]
theorem lw_r4 : ∀ q ∈ lw_privs_4, lw_okq q := List.forall_mem_cons.mpr ⟨lw_p48, List.forall_mem_cons.mpr ⟨lw_p49, List.forall_mem_cons.mpr ⟨lw_p50, List.forall_mem_cons.mpr ⟨lw_p51, List.forall_mem_cons.mpr ⟨lw_p52, List.forall_mem_cons.mpr ⟨lw_p53, List.forall_mem_cons.mpr ⟨lw_p54, List.forall_mem_cons.mpr ⟨lw_p55, List.forall_mem_cons.mpr ⟨lw_p56, List.forall_mem_cons.mpr ⟨lw_p57, List.forall_mem_cons.mpr ⟨lw_p58, List.forall_mem_cons.mpr ⟨lw_p59, fun _ h => absurd h List.not_mem_nil⟩⟩⟩⟩⟩⟩⟩⟩⟩⟩⟩⟩
def lw_privs : List (MethodName × Nat) := lw_privs_1 ++ (lw_privs_2 ++ (lw_privs_3 ++ (lw_privs_4)))
def lw_tbl : List Cond := k2_sels lw_privs ++ tables_1
theorem lw_privs_ok : ∀ q ∈ lw_privs, lw_okq q := by
  show ∀ q ∈ lw_privs_1 ++ (lw_privs_2 ++ (lw_privs_3 ++ (lw_privs_4))), lw_okq q
  exact List.forall_mem_append.mpr ⟨lw_r1, List.forall_mem_append.mpr ⟨lw_r2, List.forall_mem_append.mpr ⟨lw_r3, lw_r4⟩⟩⟩
def RX0 : String := "QuiltPatches$Cloth"
def TX0 : u_T := fun k => match k with
  | 0 => ("QuiltPatches$Cloth", "lesser", "[I", true)
  | 1 => ("QuiltPatches$Cloth", "greater", "[I", true)
  | 2 => ("QuiltPatches$Cloth", "used", "[I", true)
  | 3 => ("QuiltPatches$Cloth", "cuts", "[I", true)
  | 4 => ("QuiltPatches$Cloth", "gives", "[I", true)
  | _ => ("QuiltPatches$Cloth", "known", "Z", false)
def tyX0 : Nat → FieldType := fun k => match k with
  | 0 => .array .int
  | 1 => .array .int
  | 2 => .array .int
  | 3 => .array .int
  | 4 => .array .int
  | _ => .boolean
abbrev wsX00 : List Cond := u_ws RX0 TX0 6
theorem nmX0 : ∀ a, a < 6 → ∀ b, b < 6 → a ≠ b → (TX0 a).2.1 ≠ (TX0 b).2.1 := by decide +kernel
theorem tyX0_ok : ∀ k, k < 6 → parseFieldDescriptor (TX0 k).2.2.1 = some (tyX0 k) := by decide +kernel
abbrev cX0_init : ByteArray := prog_2_method_1_code
def yX0_init : MethodName := ⟨RX0, "<init>", "()V"⟩
abbrev cX0_at : ByteArray := prog_2_method_2_code
def yX0_at : MethodName := ⟨RX0, "at", "(II)I"⟩
abbrev cX0_measure : ByteArray := prog_2_method_3_code
def yX0_measure : MethodName := ⟨RX0, "measure", "(LQuiltPatches$Told;)V"⟩
abbrev cX0_know : ByteArray := prog_2_method_4_code
def yX0_know : MethodName := ⟨RX0, "know", "()V"⟩
abbrev cX0_workOut : ByteArray := prog_2_method_5_code
def yX0_workOut : MethodName := ⟨RX0, "workOut", "(II)V"⟩
abbrev cX0_tryCut : ByteArray := prog_2_method_6_code
def yX0_tryCut : MethodName := ⟨RX0, "tryCut", "(IIII)V"⟩
abbrev cX0_pieceLike : ByteArray := prog_2_method_7_code
def yX0_pieceLike : MethodName := ⟨RX0, "pieceLike", "(II)I"⟩
def RX1 : String := "QuiltPatches$Finder"
def TX1 : u_T := fun k => match k with
  | 0 => ("QuiltPatches$Finder", "latest", "[I", true)
  | 1 => ("QuiltPatches$Finder", "trial", "[I", true)
  | 2 => ("QuiltPatches$Finder", "given", "[Z", true)
  | 3 => ("QuiltPatches$Finder", "choice", "[I", true)
  | 4 => ("QuiltPatches$Finder", "kindRoom", "[I", true)
  | 5 => ("QuiltPatches$Finder", "hueRoom", "[I", true)
  | 6 => ("QuiltPatches$Finder", "squares", "I", false)
  | 7 => ("QuiltPatches$Finder", "found", "I", false)
  | _ => ("QuiltPatches$Finder", "limit", "I", false)
def tyX1 : Nat → FieldType := fun k => match k with
  | 0 => .array .int
  | 1 => .array .int
  | 2 => .array .boolean
  | 3 => .array .int
  | 4 => .array .int
  | 5 => .array .int
  | 6 => .int
  | 7 => .int
  | _ => .int
abbrev wsX10 : List Cond := u_ws RX1 TX1 9
theorem nmX1 : ∀ a, a < 9 → ∀ b, b < 9 → a ≠ b → (TX1 a).2.1 ≠ (TX1 b).2.1 := by decide +kernel
theorem tyX1_ok : ∀ k, k < 9 → parseFieldDescriptor (TX1 k).2.2.1 = some (tyX1 k) := by decide +kernel
abbrev cX1_init : ByteArray := prog_3_method_1_code
def yX1_init : MethodName := ⟨RX1, "<init>", "()V"⟩
abbrev cX1_find : ByteArray := prog_3_method_2_code
def yX1_find : MethodName := ⟨RX1, "find", "(LQuiltPatches$Told;LQuiltPatches$Layout;[II)I"⟩
abbrev cX1_giveFrom : ByteArray := prog_3_method_3_code
def yX1_giveFrom : MethodName := ⟨RX1, "giveFrom", "(LQuiltPatches$Told;I)V"⟩
abbrev cX1_tryBlock : ByteArray := prog_3_method_4_code
def yX1_tryBlock : MethodName := ⟨RX1, "tryBlock", "(LQuiltPatches$Told;II)V"⟩
abbrev cX1_roomInAll : ByteArray := prog_3_method_5_code
def yX1_roomInAll : MethodName := ⟨RX1, "roomInAll", "(LQuiltPatches$Told;)I"⟩
abbrev cX1_meetingEarlier : ByteArray := prog_3_method_6_code
def yX1_meetingEarlier : MethodName := ⟨RX1, "meetingEarlier", "(LQuiltPatches$Told;I)I"⟩
def RX2 : String := "QuiltPatches$Layout"
def TX2 : u_T := fun k => match k with
  | 0 => ("QuiltPatches$Layout", "blocks", "[I", true)
  | _ => ("QuiltPatches$Layout", "stocks", "[I", true)
def tyX2 : Nat → FieldType := fun k => match k with
  | 0 => .array .int
  | _ => .array .int
abbrev wsX20 : List Cond := u_ws RX2 TX2 2
theorem nmX2 : ∀ a, a < 2 → ∀ b, b < 2 → a ≠ b → (TX2 a).2.1 ≠ (TX2 b).2.1 := by decide +kernel
theorem tyX2_ok : ∀ k, k < 2 → parseFieldDescriptor (TX2 k).2.2.1 = some (tyX2 k) := by decide +kernel
abbrev cX2_init : ByteArray := prog_4_method_1_code
def yX2_init : MethodName := ⟨RX2, "<init>", "()V"⟩
abbrev cX2_begin : ByteArray := prog_4_method_2_code
def yX2_begin : MethodName := ⟨RX2, "begin", "(LQuiltPatches$Told;)V"⟩
abbrev cX2_become : ByteArray := prog_4_method_3_code
def yX2_become : MethodName := ⟨RX2, "become", "(LQuiltPatches$Layout;)V"⟩
abbrev cX2_openAll : ByteArray := prog_4_method_4_code
def yX2_openAll : MethodName := ⟨RX2, "openAll", "()V"⟩
abbrev cX2_isOpen : ByteArray := prog_4_method_5_code
def yX2_isOpen : MethodName := ⟨RX2, "isOpen", "(I)Z"⟩
abbrev cX2_leftOf : ByteArray := prog_4_method_6_code
def yX2_leftOf : MethodName := ⟨RX2, "leftOf", "(I)I"⟩
abbrev cX2_squaresOfHue : ByteArray := prog_4_method_7_code
def yX2_squaresOfHue : MethodName := ⟨RX2, "squaresOfHue", "(LQuiltPatches$Told;I)I"⟩
def RX3 : String := "QuiltPatches$Reader"
def TX3 : u_T := fun k => match k with
  | 0 => ("QuiltPatches$Reader", "place", "I", false)
  | 1 => ("QuiltPatches$Reader", "tokenPlace", "I", false)
  | 2 => ("QuiltPatches$Reader", "token", "I", false)
  | 3 => ("QuiltPatches$Reader", "number", "I", false)
  | 4 => ("QuiltPatches$Reader", "toldWidth", "Z", false)
  | 5 => ("QuiltPatches$Reader", "toldRim", "Z", false)
  | 6 => ("QuiltPatches$Reader", "toldMost", "Z", false)
  | _ => ("QuiltPatches$Reader", "toldSide", "Z", false)
def tyX3 : Nat → FieldType := fun k => match k with
  | 0 => .int
  | 1 => .int
  | 2 => .int
  | 3 => .int
  | 4 => .boolean
  | 5 => .boolean
  | 6 => .boolean
  | _ => .boolean
abbrev wsX30 : List Cond := u_ws RX3 TX3 8
theorem nmX3 : ∀ a, a < 8 → ∀ b, b < 8 → a ≠ b → (TX3 a).2.1 ≠ (TX3 b).2.1 := by decide +kernel
theorem tyX3_ok : ∀ k, k < 8 → parseFieldDescriptor (TX3 k).2.2.1 = some (tyX3 k) := by decide +kernel
abbrev cX3_init : ByteArray := prog_5_method_1_code
def yX3_init : MethodName := ⟨RX3, "<init>", "()V"⟩
abbrev cX3_readInto : ByteArray := prog_5_method_2_code
def yX3_readInto : MethodName := ⟨RX3, "readInto", "(LQuiltPatches$Told;[II)I"⟩
abbrev cX3_startAnew : ByteArray := prog_5_method_3_code
def yX3_startAnew : MethodName := ⟨RX3, "startAnew", "(LQuiltPatches$Told;)V"⟩
abbrev cX3_readItem : ByteArray := prog_5_method_4_code
def yX3_readItem : MethodName := ⟨RX3, "readItem", "(LQuiltPatches$Told;[II)Z"⟩
abbrev cX3_mayStart : ByteArray := prog_5_method_5_code
def yX3_mayStart : MethodName := ⟨RX3, "mayStart", "(LQuiltPatches$Told;I)Z"⟩
abbrev cX3_numbersOf : ByteArray := prog_5_method_6_code
def yX3_numbersOf : MethodName := ⟨RX3, "numbersOf", "(I)I"⟩
abbrev cX3_lowestOf : ByteArray := prog_5_method_7_code
def yX3_lowestOf : MethodName := ⟨RX3, "lowestOf", "(I)I"⟩
abbrev cX3_highestOf : ByteArray := prog_5_method_8_code
def yX3_highestOf : MethodName := ⟨RX3, "highestOf", "(II)I"⟩
abbrev cX3_put : ByteArray := prog_5_method_9_code
def yX3_put : MethodName := ⟨RX3, "put", "(LQuiltPatches$Told;III)V"⟩
abbrev cX3_putKind : ByteArray := prog_5_method_10_code
def yX3_putKind : MethodName := ⟨RX3, "putKind", "(LQuiltPatches$Told;II)V"⟩
abbrev cX3_readToken : ByteArray := prog_5_method_11_code
def yX3_readToken : MethodName := ⟨RX3, "readToken", "([II)V"⟩
abbrev cX3_readNumber : ByteArray := prog_5_method_12_code
def yX3_readNumber : MethodName := ⟨RX3, "readNumber", "([II)V"⟩
abbrev cX3_isFigure : ByteArray := prog_5_method_13_code
def yX3_isFigure : MethodName := ⟨RX3, "isFigure", "(I)Z"⟩
abbrev cX3_isSign : ByteArray := prog_5_method_14_code
def yX3_isSign : MethodName := ⟨RX3, "isSign", "(I)Z"⟩
def RX4 : String := "QuiltPatches$Told"
def TX4 : u_T := fun k => match k with
  | 0 => ("QuiltPatches$Told", "kinds", "I", false)
  | 1 => ("QuiltPatches$Told", "width", "I", false)
  | 2 => ("QuiltPatches$Told", "height", "I", false)
  | 3 => ("QuiltPatches$Told", "rim", "I", false)
  | 4 => ("QuiltPatches$Told", "most", "I", false)
  | 5 => ("QuiltPatches$Told", "side", "I", false)
  | 6 => ("QuiltPatches$Told", "border", "I", false)
  | 7 => ("QuiltPatches$Told", "edges", "[I", true)
  | 8 => ("QuiltPatches$Told", "hues", "[I", true)
  | 9 => ("QuiltPatches$Told", "stocks", "[I", true)
  | _ => ("QuiltPatches$Told", "having", "[I", true)
def tyX4 : Nat → FieldType := fun k => match k with
  | 0 => .int
  | 1 => .int
  | 2 => .int
  | 3 => .int
  | 4 => .int
  | 5 => .int
  | 6 => .int
  | 7 => .array .int
  | 8 => .array .int
  | 9 => .array .int
  | _ => .array .int
abbrev wsX40 : List Cond := u_ws RX4 TX4 11
theorem nmX4 : ∀ a, a < 11 → ∀ b, b < 11 → a ≠ b → (TX4 a).2.1 ≠ (TX4 b).2.1 := by decide +kernel
theorem tyX4_ok : ∀ k, k < 11 → parseFieldDescriptor (TX4 k).2.2.1 = some (tyX4 k) := by decide +kernel
abbrev cX4_init : ByteArray := prog_6_method_1_code
def yX4_init : MethodName := ⟨RX4, "<init>", "()V"⟩
abbrev cX4_startAnew : ByteArray := prog_6_method_2_code
def yX4_startAnew : MethodName := ⟨RX4, "startAnew", "()V"⟩
abbrev cX4_squares : ByteArray := prog_6_method_3_code
def yX4_squares : MethodName := ⟨RX4, "squares", "()I"⟩
abbrev cX4_edgeOf : ByteArray := prog_6_method_4_code
def yX4_edgeOf : MethodName := ⟨RX4, "edgeOf", "(II)I"⟩
abbrev cX4_isPlain : ByteArray := prog_6_method_5_code
def yX4_isPlain : MethodName := ⟨RX4, "isPlain", "(I)Z"⟩
abbrev cX4_looksLike : ByteArray := prog_6_method_6_code
def yX4_looksLike : MethodName := ⟨RX4, "looksLike", "(II)Z"⟩
abbrev cX4_settleBlocks : ByteArray := prog_6_method_7_code
def yX4_settleBlocks : MethodName := ⟨RX4, "settleBlocks", "()V"⟩
abbrev cX4_plainWith : ByteArray := prog_6_method_8_code
def yX4_plainWith : MethodName := ⟨RX4, "plainWith", "(II)I"⟩
abbrev cX4_beside : ByteArray := prog_6_method_9_code
def yX4_beside : MethodName := ⟨RX4, "beside", "(II)I"⟩
abbrev cX4_isFirstOfHue : ByteArray := prog_6_method_10_code
def yX4_isFirstOfHue : MethodName := ⟨RX4, "isFirstOfHue", "(I)Z"⟩
abbrev cX4_hueCount : ByteArray := prog_6_method_11_code
def yX4_hueCount : MethodName := ⟨RX4, "hueCount", "()I"⟩
abbrev cX4_hueAt : ByteArray := prog_6_method_12_code
def yX4_hueAt : MethodName := ⟨RX4, "hueAt", "(I)I"⟩
abbrev cX4_kindsOfHue : ByteArray := prog_6_method_13_code
def yX4_kindsOfHue : MethodName := ⟨RX4, "kindsOfHue", "(I)I"⟩
def RX5 : String := "QuiltPatches$Winnow"
def TX5 : u_T := fun k => match k with
  | _ => ("QuiltPatches$Winnow", "sets", "[I", true)
def tyX5 : Nat → FieldType := fun k => match k with
  | _ => .array .int
abbrev wsX50 : List Cond := u_ws RX5 TX5 1
theorem nmX5 : ∀ a, a < 1 → ∀ b, b < 1 → a ≠ b → (TX5 a).2.1 ≠ (TX5 b).2.1 := by decide +kernel
theorem tyX5_ok : ∀ k, k < 1 → parseFieldDescriptor (TX5 k).2.2.1 = some (tyX5 k) := by decide +kernel
abbrev cX5_init : ByteArray := prog_7_method_1_code
def yX5_init : MethodName := ⟨RX5, "<init>", "()V"⟩
abbrev cX5_begin : ByteArray := prog_7_method_2_code
def yX5_begin : MethodName := ⟨RX5, "begin", "(LQuiltPatches$Told;LQuiltPatches$Layout;)V"⟩
abbrev cX5_settle : ByteArray := prog_7_method_3_code
def yX5_settle : MethodName := ⟨RX5, "settle", "(LQuiltPatches$Told;LQuiltPatches$Layout;)V"⟩
abbrev cX5_blocksToHave : ByteArray := prog_7_method_4_code
def yX5_blocksToHave : MethodName := ⟨RX5, "blocksToHave", "(LQuiltPatches$Told;LQuiltPatches$Layout;)I"⟩
abbrev cX5_meetingAround : ByteArray := prog_7_method_5_code
def yX5_meetingAround : MethodName := ⟨RX5, "meetingAround", "(LQuiltPatches$Told;LQuiltPatches$Layout;I)I"⟩
abbrev cX5_supported : ByteArray := prog_7_method_6_code
def yX5_supported : MethodName := ⟨RX5, "supported", "(LQuiltPatches$Told;LQuiltPatches$Layout;I)I"⟩
abbrev cX5_meetingOneOf : ByteArray := prog_7_method_7_code
def yX5_meetingOneOf : MethodName := ⟨RX5, "meetingOneOf", "(LQuiltPatches$Told;II)I"⟩
def RX6 : String := "QuiltPatches"
def TX6 : u_T := fun k => match k with
  | 0 => ("QuiltPatches", "text", "[I", true)
  | 1 => ("QuiltPatches", "letters", "I", false)
  | 2 => ("QuiltPatches", "reader", "LQuiltPatches$Reader;", true)
  | 3 => ("QuiltPatches", "told", "LQuiltPatches$Told;", false)
  | 4 => ("QuiltPatches", "spare", "LQuiltPatches$Told;", false)
  | 5 => ("QuiltPatches", "now", "LQuiltPatches$Layout;", true)
  | 6 => ("QuiltPatches", "supposed", "LQuiltPatches$Layout;", true)
  | 7 => ("QuiltPatches", "past", "[LQuiltPatches$Layout;", true)
  | 8 => ("QuiltPatches", "pastEnd", "I", false)
  | 9 => ("QuiltPatches", "undoable", "I", false)
  | 10 => ("QuiltPatches", "images", "[LQuiltPatches$Layout;", true)
  | 11 => ("QuiltPatches", "kept", "[Z", true)
  | 12 => ("QuiltPatches", "winnow", "LQuiltPatches$Winnow;", true)
  | 13 => ("QuiltPatches", "finder", "LQuiltPatches$Finder;", true)
  | 14 => ("QuiltPatches", "cloth", "LQuiltPatches$Cloth;", true)
  | _ => ("QuiltPatches", "firstQuilt", "[I", true)
def tyX6 : Nat → FieldType := fun k => match k with
  | 0 => .array .int
  | 1 => .int
  | 2 => .object "QuiltPatches$Reader"
  | 3 => .object "QuiltPatches$Told"
  | 4 => .object "QuiltPatches$Told"
  | 5 => .object "QuiltPatches$Layout"
  | 6 => .object "QuiltPatches$Layout"
  | 7 => .array (.object "QuiltPatches$Layout")
  | 8 => .int
  | 9 => .int
  | 10 => .array (.object "QuiltPatches$Layout")
  | 11 => .array .boolean
  | 12 => .object "QuiltPatches$Winnow"
  | 13 => .object "QuiltPatches$Finder"
  | 14 => .object "QuiltPatches$Cloth"
  | _ => .array .int
abbrev wsX60 : List Cond := u_ws RX6 TX6 16
theorem nmX6 : ∀ a, a < 16 → ∀ b, b < 16 → a ≠ b → (TX6 a).2.1 ≠ (TX6 b).2.1 := by decide +kernel
theorem tyX6_ok : ∀ k, k < 16 → parseFieldDescriptor (TX6 k).2.2.1 = some (tyX6 k) := by decide +kernel
abbrev cX6_init : ByteArray := prog_1_method_1_code
def yX6_init : MethodName := ⟨RX6, "<init>", "()V"⟩
abbrev cX6_type : ByteArray := prog_1_method_2_code
def yX6_type : MethodName := ⟨RX6, "type", "(I)I"⟩
abbrev cX6_clear : ByteArray := prog_1_method_3_code
def yX6_clear : MethodName := ⟨RX6, "clear", "()I"⟩
abbrev cX6_tells : ByteArray := prog_1_method_4_code
def yX6_tells : MethodName := ⟨RX6, "tells", "()I"⟩
abbrev cX6_kind : ByteArray := prog_1_method_5_code
def yX6_kind : MethodName := ⟨RX6, "kind", "(II)I"⟩
abbrev cX6_block : ByteArray := prog_1_method_6_code
def yX6_block : MethodName := ⟨RX6, "block", "(II)I"⟩
abbrev cX6_lays : ByteArray := prog_1_method_7_code
def yX6_lays : MethodName := ⟨RX6, "lays", "(II)I"⟩
abbrev cX6_takes : ByteArray := prog_1_method_8_code
def yX6_takes : MethodName := ⟨RX6, "takes", "(I)I"⟩
abbrev cX6_buys : ByteArray := prog_1_method_9_code
def yX6_buys : MethodName := ⟨RX6, "buys", "(II)I"⟩
abbrev cX6_clears : ByteArray := prog_1_method_10_code
def yX6_clears : MethodName := ⟨RX6, "clears", "()I"⟩
abbrev cX6_undo : ByteArray := prog_1_method_11_code
def yX6_undo : MethodName := ⟨RX6, "undo", "()I"⟩
abbrev cX6_square : ByteArray := prog_1_method_12_code
def yX6_square : MethodName := ⟨RX6, "square", "(I)I"⟩
abbrev cX6_fits : ByteArray := prog_1_method_13_code
def yX6_fits : MethodName := ⟨RX6, "fits", "(II)I"⟩
abbrev cX6_left : ByteArray := prog_1_method_14_code
def yX6_left : MethodName := ⟨RX6, "left", "(II)I"⟩
abbrev cX6_hue : ByteArray := prog_1_method_15_code
def yX6_hue : MethodName := ⟨RX6, "hue", "(II)I"⟩
abbrev cX6_many : ByteArray := prog_1_method_16_code
def yX6_many : MethodName := ⟨RX6, "many", "(I)I"⟩
abbrev cX6_quilt : ByteArray := prog_1_method_17_code
def yX6_quilt : MethodName := ⟨RX6, "quilt", "(II)I"⟩
abbrev cX6_sure : ByteArray := prog_1_method_18_code
def yX6_sure : MethodName := ⟨RX6, "sure", "()I"⟩
abbrev cX6_next : ByteArray := prog_1_method_19_code
def yX6_next : MethodName := ⟨RX6, "next", "()I"⟩
abbrev cX6_wanting : ByteArray := prog_1_method_20_code
def yX6_wanting : MethodName := ⟨RX6, "wanting", "(I)I"⟩
abbrev cX6_piece : ByteArray := prog_1_method_21_code
def yX6_piece : MethodName := ⟨RX6, "piece", "(II)I"⟩
abbrev cX6_good : ByteArray := prog_1_method_22_code
def yX6_good : MethodName := ⟨RX6, "good", "(II)I"⟩
abbrev cX6_cut : ByteArray := prog_1_method_23_code
def yX6_cut : MethodName := ⟨RX6, "cut", "(II)I"⟩
abbrev cX6_made : ByteArray := prog_1_method_24_code
def yX6_made : MethodName := ⟨RX6, "made", "(III)I"⟩
abbrev cX6_keep : ByteArray := prog_1_method_25_code
def yX6_keep : MethodName := ⟨RX6, "keep", "(I)I"⟩
abbrev cX6_back : ByteArray := prog_1_method_26_code
def yX6_back : MethodName := ⟨RX6, "back", "(I)I"⟩
abbrev cX6_count : ByteArray := prog_1_method_27_code
def yX6_count : MethodName := ⟨RX6, "count", "(I)I"⟩
abbrev cX6_isKind : ByteArray := prog_1_method_28_code
def yX6_isKind : MethodName := ⟨RX6, "isKind", "(I)Z"⟩
abbrev cX6_isBlock : ByteArray := prog_1_method_29_code
def yX6_isBlock : MethodName := ⟨RX6, "isBlock", "(I)Z"⟩
abbrev cX6_isSquare : ByteArray := prog_1_method_30_code
def yX6_isSquare : MethodName := ⟨RX6, "isSquare", "(I)Z"⟩
abbrev cX6_isPiece : ByteArray := prog_1_method_31_code
def yX6_isPiece : MethodName := ⟨RX6, "isPiece", "(I)Z"⟩
abbrev cX6_isRectangle : ByteArray := prog_1_method_32_code
def yX6_isRectangle : MethodName := ⟨RX6, "isRectangle", "(II)Z"⟩
abbrev cX6_isImage : ByteArray := prog_1_method_33_code
def yX6_isImage : MethodName := ⟨RX6, "isImage", "(I)Z"⟩
abbrev cX6_openSquares : ByteArray := prog_1_method_34_code
def yX6_openSquares : MethodName := ⟨RX6, "openSquares", "()I"⟩
abbrev cX6_forgetImages : ByteArray := prog_1_method_35_code
def yX6_forgetImages : MethodName := ⟨RX6, "forgetImages", "()V"⟩
abbrev cX6_remember : ByteArray := prog_1_method_36_code
def yX6_remember : MethodName := ⟨RX6, "remember", "()V"⟩
abbrev cX6_whyNot : ByteArray := prog_1_method_37_code
def yX6_whyNot : MethodName := ⟨RX6, "whyNot", "(II)I"⟩
abbrev cX6_meetsNeighbours : ByteArray := prog_1_method_38_code
def yX6_meetsNeighbours : MethodName := ⟨RX6, "meetsNeighbours", "(II)Z"⟩
abbrev cX6_keepsRim : ByteArray := prog_1_method_39_code
def yX6_keepsRim : MethodName := ⟨RX6, "keepsRim", "(II)Z"⟩
abbrev cX6_quiltsOf : ByteArray := prog_1_method_40_code
def yX6_quiltsOf : MethodName := ⟨RX6, "quiltsOf", "(LQuiltPatches$Layout;I)I"⟩
abbrev cX6_sameWithAnotherAt : ByteArray := prog_1_method_41_code
def yX6_sameWithAnotherAt : MethodName := ⟨RX6, "sameWithAnotherAt", "(II)I"⟩
abbrev cX6_bitAt : ByteArray := prog_1_method_42_code
def yX6_bitAt : MethodName := ⟨RX6, "bitAt", "(II)I"⟩
abbrev cX6_opposite : ByteArray := prog_1_method_43_code
def yX6_opposite : MethodName := ⟨RX6, "opposite", "(I)I"⟩
def RX7 : String := "QuiltPatchesModel"
def TX7 : u_T := fun k => match k with
  | 0 => ("QuiltPatchesModel", "kinds", "I", false)
  | 1 => ("QuiltPatchesModel", "size", "[I", true)
  | 2 => ("QuiltPatchesModel", "told", "[I", true)
  | 3 => ("QuiltPatchesModel", "s", "[I", true)
  | 4 => ("QuiltPatchesModel", "undos", "I", false)
  | 5 => ("QuiltPatchesModel", "past", "[I", true)
  | 6 => ("QuiltPatchesModel", "isKept", "[Z", true)
  | 7 => ("QuiltPatchesModel", "kept", "[I", true)
  | 8 => ("QuiltPatchesModel", "newKinds", "I", false)
  | 9 => ("QuiltPatchesModel", "newSize", "[I", true)
  | 10 => ("QuiltPatchesModel", "newTold", "[I", true)
  | 11 => ("QuiltPatchesModel", "newStock", "[I", true)
  | 12 => ("QuiltPatchesModel", "letters", "I", false)
  | 13 => ("QuiltPatchesModel", "text", "[I", true)
  | 14 => ("QuiltPatchesModel", "at", "I", false)
  | 15 => ("QuiltPatchesModel", "number", "I", false)
  | 16 => ("QuiltPatchesModel", "met", "I", false)
  | 17 => ("QuiltPatchesModel", "t", "[I", true)
  | 18 => ("QuiltPatchesModel", "there", "[I", true)
  | 19 => ("QuiltPatchesModel", "opens", "I", false)
  | 20 => ("QuiltPatchesModel", "openAt", "[I", true)
  | 21 => ("QuiltPatchesModel", "tried", "[I", true)
  | 22 => ("QuiltPatchesModel", "depth", "I", false)
  | 23 => ("QuiltPatchesModel", "isFound", "Z", false)
  | 24 => ("QuiltPatchesModel", "butSquare", "I", false)
  | 25 => ("QuiltPatchesModel", "but", "I", false)
  | 26 => ("QuiltPatchesModel", "first", "[I", true)
  | 27 => ("QuiltPatchesModel", "goods", "[I", true)
  | 28 => ("QuiltPatchesModel", "cuts", "[I", true)
  | _ => ("QuiltPatchesModel", "pieces", "[I", true)
def tyX7 : Nat → FieldType := fun k => match k with
  | 0 => .int
  | 1 => .array .int
  | 2 => .array .int
  | 3 => .array .int
  | 4 => .int
  | 5 => .array .int
  | 6 => .array .boolean
  | 7 => .array .int
  | 8 => .int
  | 9 => .array .int
  | 10 => .array .int
  | 11 => .array .int
  | 12 => .int
  | 13 => .array .int
  | 14 => .int
  | 15 => .int
  | 16 => .int
  | 17 => .array .int
  | 18 => .array .int
  | 19 => .int
  | 20 => .array .int
  | 21 => .array .int
  | 22 => .int
  | 23 => .boolean
  | 24 => .int
  | 25 => .int
  | 26 => .array .int
  | 27 => .array .int
  | 28 => .array .int
  | _ => .array .int
abbrev wsX70 : List Cond := u_ws RX7 TX7 30
theorem nmX7 : ∀ a, a < 30 → ∀ b, b < 30 → a ≠ b → (TX7 a).2.1 ≠ (TX7 b).2.1 := by decide +kernel
theorem tyX7_ok : ∀ k, k < 30 → parseFieldDescriptor (TX7 k).2.2.1 = some (tyX7 k) := by decide +kernel
abbrev cX7_in : ByteArray := prog_9_method_1_code
def yX7_in : MethodName := ⟨RX7, "in", "(III)Z"⟩
abbrev cX7_init : ByteArray := prog_9_method_2_code
def yX7_init : MethodName := ⟨RX7, "<init>", "()V"⟩
abbrev cX7_begins : ByteArray := prog_9_method_3_code
def yX7_begins : MethodName := ⟨RX7, "begins", "()V"⟩
abbrev cX7_becomes : ByteArray := prog_9_method_4_code
def yX7_becomes : MethodName := ⟨RX7, "becomes", "()V"⟩
abbrev cX7_type : ByteArray := prog_9_method_5_code
def yX7_type : MethodName := ⟨RX7, "type", "(I)I"⟩
abbrev cX7_clear : ByteArray := prog_9_method_6_code
def yX7_clear : MethodName := ⟨RX7, "clear", "()I"⟩
abbrev cX7_here : ByteArray := prog_9_method_7_code
def yX7_here : MethodName := ⟨RX7, "here", "()I"⟩
abbrev cX7_reads : ByteArray := prog_9_method_8_code
def yX7_reads : MethodName := ⟨RX7, "reads", "(II)Z"⟩
abbrev cX7_readsKind : ByteArray := prog_9_method_9_code
def yX7_readsKind : MethodName := ⟨RX7, "readsKind", "()Z"⟩
abbrev cX7_readsOnce : ByteArray := prog_9_method_10_code
def yX7_readsOnce : MethodName := ⟨RX7, "readsOnce", "(IIIII)Z"⟩
abbrev cX7_item : ByteArray := prog_9_method_11_code
def yX7_item : MethodName := ⟨RX7, "item", "()Z"⟩
abbrev cX7_tells : ByteArray := prog_9_method_12_code
def yX7_tells : MethodName := ⟨RX7, "tells", "()I"⟩
abbrev cX7_isKind : ByteArray := prog_9_method_13_code
def yX7_isKind : MethodName := ⟨RX7, "isKind", "(I)Z"⟩
abbrev cX7_isBlock : ByteArray := prog_9_method_14_code
def yX7_isBlock : MethodName := ⟨RX7, "isBlock", "(I)Z"⟩
abbrev cX7_squares : ByteArray := prog_9_method_15_code
def yX7_squares : MethodName := ⟨RX7, "squares", "()I"⟩
abbrev cX7_isSquare : ByteArray := prog_9_method_16_code
def yX7_isSquare : MethodName := ⟨RX7, "isSquare", "(I)Z"⟩
abbrev cX7_edge : ByteArray := prog_9_method_17_code
def yX7_edge : MethodName := ⟨RX7, "edge", "(II)I"⟩
abbrev cX7_isPlain : ByteArray := prog_9_method_18_code
def yX7_isPlain : MethodName := ⟨RX7, "isPlain", "(I)Z"⟩
abbrev cX7_hueOf : ByteArray := prog_9_method_19_code
def yX7_hueOf : MethodName := ⟨RX7, "hueOf", "(I)I"⟩
abbrev cX7_tries : ByteArray := prog_9_method_20_code
def yX7_tries : MethodName := ⟨RX7, "tries", "()V"⟩
abbrev cX7_leftOf : ByteArray := prog_9_method_21_code
def yX7_leftOf : MethodName := ⟨RX7, "leftOf", "(I)I"⟩
abbrev cX7_ofHue : ByteArray := prog_9_method_22_code
def yX7_ofHue : MethodName := ⟨RX7, "ofHue", "(I)I"⟩
abbrev cX7_beside : ByteArray := prog_9_method_23_code
def yX7_beside : MethodName := ⟨RX7, "beside", "(II)I"⟩
abbrev cX7_whyNot : ByteArray := prog_9_method_24_code
def yX7_whyNot : MethodName := ⟨RX7, "whyNot", "(II)I"⟩
abbrev cX7_kind : ByteArray := prog_9_method_25_code
def yX7_kind : MethodName := ⟨RX7, "kind", "(II)I"⟩
abbrev cX7_block : ByteArray := prog_9_method_26_code
def yX7_block : MethodName := ⟨RX7, "block", "(II)I"⟩
abbrev cX7_open : ByteArray := prog_9_method_27_code
def yX7_open : MethodName := ⟨RX7, "open", "()I"⟩
abbrev cX7_notes : ByteArray := prog_9_method_28_code
def yX7_notes : MethodName := ⟨RX7, "notes", "()V"⟩
abbrev cX7_lays : ByteArray := prog_9_method_29_code
def yX7_lays : MethodName := ⟨RX7, "lays", "(II)I"⟩
abbrev cX7_takes : ByteArray := prog_9_method_30_code
def yX7_takes : MethodName := ⟨RX7, "takes", "(I)I"⟩
abbrev cX7_buys : ByteArray := prog_9_method_31_code
def yX7_buys : MethodName := ⟨RX7, "buys", "(II)I"⟩
abbrev cX7_clears : ByteArray := prog_9_method_32_code
def yX7_clears : MethodName := ⟨RX7, "clears", "()I"⟩
abbrev cX7_undo : ByteArray := prog_9_method_33_code
def yX7_undo : MethodName := ⟨RX7, "undo", "()I"⟩
abbrev cX7_square : ByteArray := prog_9_method_34_code
def yX7_square : MethodName := ⟨RX7, "square", "(I)I"⟩
abbrev cX7_fits : ByteArray := prog_9_method_35_code
def yX7_fits : MethodName := ⟨RX7, "fits", "(II)I"⟩
abbrev cX7_has : ByteArray := prog_9_method_36_code
def yX7_has : MethodName := ⟨RX7, "has", "(III)Z"⟩
abbrev cX7_stays : ByteArray := prog_9_method_37_code
def yX7_stays : MethodName := ⟨RX7, "stays", "(II)Z"⟩
abbrev cX7_winnows : ByteArray := prog_9_method_38_code
def yX7_winnows : MethodName := ⟨RX7, "winnows", "()V"⟩
abbrev cX7_ones : ByteArray := prog_9_method_39_code
def yX7_ones : MethodName := ⟨RX7, "ones", "(I)I"⟩
abbrev cX7_left : ByteArray := prog_9_method_40_code
def yX7_left : MethodName := ⟨RX7, "left", "(II)I"⟩
abbrev cX7_hueAt : ByteArray := prog_9_method_41_code
def yX7_hueAt : MethodName := ⟨RX7, "hueAt", "(I)I"⟩
abbrev cX7_hue : ByteArray := prog_9_method_42_code
def yX7_hue : MethodName := ⟨RX7, "hue", "(II)I"⟩
abbrev cX7_startsQuilts : ByteArray := prog_9_method_43_code
def yX7_startsQuilts : MethodName := ⟨RX7, "startsQuilts", "()V"⟩
abbrev cX7_canBe : ByteArray := prog_9_method_44_code
def yX7_canBe : MethodName := ⟨RX7, "canBe", "(II)Z"⟩
abbrev cX7_nextQuilt : ByteArray := prog_9_method_45_code
def yX7_nextQuilt : MethodName := ⟨RX7, "nextQuilt", "()Z"⟩
abbrev cX7_many : ByteArray := prog_9_method_46_code
def yX7_many : MethodName := ⟨RX7, "many", "(I)I"⟩
abbrev cX7_quilt : ByteArray := prog_9_method_47_code
def yX7_quilt : MethodName := ⟨RX7, "quilt", "(II)I"⟩
abbrev cX7_sure : ByteArray := prog_9_method_48_code
def yX7_sure : MethodName := ⟨RX7, "sure", "()I"⟩
abbrev cX7_next : ByteArray := prog_9_method_49_code
def yX7_next : MethodName := ⟨RX7, "next", "()I"⟩
abbrev cX7_wanting : ByteArray := prog_9_method_50_code
def yX7_wanting : MethodName := ⟨RX7, "wanting", "(I)I"⟩
abbrev cX7_side : ByteArray := prog_9_method_51_code
def yX7_side : MethodName := ⟨RX7, "side", "(IZ)I"⟩
abbrev cX7_pieceOf : ByteArray := prog_9_method_52_code
def yX7_pieceOf : MethodName := ⟨RX7, "pieceOf", "(II)I"⟩
abbrev cX7_laysCut : ByteArray := prog_9_method_53_code
def yX7_laysCut : MethodName := ⟨RX7, "laysCut", "(IIII)V"⟩
abbrev cX7_laysRectangle : ByteArray := prog_9_method_54_code
def yX7_laysRectangle : MethodName := ⟨RX7, "laysRectangle", "(II)V"⟩
abbrev cX7_laysCloth : ByteArray := prog_9_method_55_code
def yX7_laysCloth : MethodName := ⟨RX7, "laysCloth", "()V"⟩
abbrev cX7_isCloth : ByteArray := prog_9_method_56_code
def yX7_isCloth : MethodName := ⟨RX7, "isCloth", "(II)Z"⟩
abbrev cX7_piece : ByteArray := prog_9_method_57_code
def yX7_piece : MethodName := ⟨RX7, "piece", "(II)I"⟩
abbrev cX7_good : ByteArray := prog_9_method_58_code
def yX7_good : MethodName := ⟨RX7, "good", "(II)I"⟩
abbrev cX7_cut : ByteArray := prog_9_method_59_code
def yX7_cut : MethodName := ⟨RX7, "cut", "(II)I"⟩
abbrev cX7_made : ByteArray := prog_9_method_60_code
def yX7_made : MethodName := ⟨RX7, "made", "(III)I"⟩
abbrev cX7_keep : ByteArray := prog_9_method_61_code
def yX7_keep : MethodName := ⟨RX7, "keep", "(I)I"⟩
abbrev cX7_back : ByteArray := prog_9_method_62_code
def yX7_back : MethodName := ⟨RX7, "back", "(I)I"⟩
abbrev cX7_hues : ByteArray := prog_9_method_63_code
def yX7_hues : MethodName := ⟨RX7, "hues", "()I"⟩
abbrev cX7_count : ByteArray := prog_9_method_64_code
def yX7_count : MethodName := ⟨RX7, "count", "(I)I"⟩
def RJ6 : String := "java/lang/Integer"
def TJ6 : u_T := fun k => match k with
  | _ => ("", "", "", false)
def tyJ6 : Nat → FieldType := fun k => match k with
  | _ => .int
abbrev wsJ60 : List Cond := u_ws RJ6 TJ6 0
theorem nmJ6 : ∀ a, a < 0 → ∀ b, b < 0 → a ≠ b → (TJ6 a).2.1 ≠ (TJ6 b).2.1 := by decide +kernel
theorem tyJ6_ok : ∀ k, k < 0 → parseFieldDescriptor (TJ6 k).2.2.1 = some (tyJ6 k) := by decide +kernel
abbrev cJ6_bitCount_0f7a4 : ByteArray := prog_10_method_49_code
def yJ6_bitCount_0f7a4 : MethodName := ⟨RJ6, "bitCount", "(I)I"⟩
def RJ9 : String := "java/lang/Math"
def TJ9 : u_T := fun k => match k with
  | _ => ("", "", "", false)
def tyJ9 : Nat → FieldType := fun k => match k with
  | _ => .int
abbrev wsJ90 : List Cond := u_ws RJ9 TJ9 0
theorem nmJ9 : ∀ a, a < 0 → ∀ b, b < 0 → a ≠ b → (TJ9 a).2.1 ≠ (TJ9 b).2.1 := by decide +kernel
theorem tyJ9_ok : ∀ k, k < 0 → parseFieldDescriptor (TJ9 k).2.2.1 = some (tyJ9 k) := by decide +kernel
abbrev cJ9_max_7cf53 : ByteArray := prog_11_method_65_code
def yJ9_max_7cf53 : MethodName := ⟨RJ9, "max", "(II)I"⟩
abbrev cJ9_min_7cf53 : ByteArray := prog_11_method_69_code
def yJ9_min_7cf53 : MethodName := ⟨RJ9, "min", "(II)I"⟩
def RJ10 : String := "java/lang/System"
def TJ10 : u_T := fun k => match k with
  | _ => ("", "", "", false)
def tyJ10 : Nat → FieldType := fun k => match k with
  | _ => .int
abbrev wsJ100 : List Cond := u_ws RJ10 TJ10 0
theorem nmJ10 : ∀ a, a < 0 → ∀ b, b < 0 → a ≠ b → (TJ10 a).2.1 ≠ (TJ10 b).2.1 := by decide +kernel
theorem tyJ10_ok : ∀ k, k < 0 → parseFieldDescriptor (TJ10 k).2.2.1 = some (tyJ10 k) := by decide +kernel
def RJ7 : String := "java/util/Arrays"
def TJ7 : u_T := fun k => match k with
  | _ => ("", "", "", false)
def tyJ7 : Nat → FieldType := fun k => match k with
  | _ => .int
abbrev wsJ70 : List Cond := u_ws RJ7 TJ7 0
theorem nmJ7 : ∀ a, a < 0 → ∀ b, b < 0 → a ≠ b → (TJ7 a).2.1 ≠ (TJ7 b).2.1 := by decide +kernel
theorem tyJ7_ok : ∀ k, k < 0 → parseFieldDescriptor (TJ7 k).2.2.1 = some (tyJ7 k) := by decide +kernel
abbrev cJ7_fill_53178 : ByteArray := prog_13_method_103_code
def yJ7_fill_53178 : MethodName := ⟨RJ7, "fill", "([II)V"⟩
def RL : String := "QuiltPatchesLaw"
abbrev cL_law : ByteArray := code
def yL_law : MethodName := ⟨RL, "law", "([I)Z"⟩
end
section
/-! the tables of the little machine: classes, links, methods; their words by their places (printed by gen2.py) -/
def m_tbl : List Cond := lw_tbl.filter goodWord
theorem m_tbl_at {i : Nat} {w : Cond} (h : lw_tbl[i]? = some w ∧ goodWord w = true) : w ∈ m_tbl := List.mem_filter.mpr ⟨List.mem_of_getElem? h.1, h.2⟩
theorem m_tbl_sub {w : Cond} (h : w ∈ m_tbl) : w ∈ lw_tbl := (List.mem_filter.mp h).1
theorem m_tbl_good {w : Cond} (h : w ∈ m_tbl) : (w.onTables && w.keeps) = true ∨ ∃ ty, w = .arrayClass ty := good_of_word (List.mem_filter.mp h).2
abbrev m_classes : List vw_C := [(RX0, TX0, 6), (RX1, TX1, 9), (RX2, TX2, 2), (RX3, TX3, 8), (RX4, TX4, 11), (RX5, TX5, 1), (RX6, TX6, 16), (RX7, TX7, 30)]
def m_cR (o : Nat) : String := ["QuiltPatches$Cloth", "QuiltPatches$Finder", "QuiltPatches$Layout", "QuiltPatches$Reader", "QuiltPatches$Told", "QuiltPatches$Winnow", "QuiltPatches", "QuiltPatchesModel", "java/util/Arrays", "java/lang/Integer"].getD o ""
/-- a class's fields: 0 an int, 1 a boolean, 2 a reference -/
def m_tags : List (List Nat) := [[2, 2, 2, 2, 2, 1], [2, 2, 2, 2, 2, 2, 0, 0, 0], [2, 2], [0, 0, 0, 0, 1, 1, 1, 1], [0, 0, 0, 0, 0, 0, 0, 2, 2, 2, 2], [2], [2, 0, 2, 2, 2, 2, 2, 2, 0, 0, 2, 2, 2, 2, 2, 2], [0, 2, 2, 2, 0, 2, 2, 2, 0, 2, 2, 2, 0, 2, 0, 0, 0, 2, 2, 0, 2, 2, 0, 1, 0, 0, 2, 2, 2, 2]]
def m_tagL (ci : Nat) : List Nat := m_tags.getD ci []
/-- own class, index: class, field, place of the word -/
def m_fls : List (Nat × Nat × Nat × Nat × Nat) := [(3, 40, 3, 0, 87), (3, 33, 3, 1, 88), (3, 25, 3, 2, 89), (3, 67, 3, 3, 90), (3, 43, 3, 4, 91), (3, 47, 3, 5, 92), (3, 50, 3, 6, 93), (3, 53, 3, 7, 94), (4, 27, 4, 0, 123), (1, 49, 4, 0, 124), (5, 38, 4, 0, 125), (3, 60, 4, 0, 126), (6, 229, 4, 0, 127), (4, 31, 4, 1, 128), (0, 36, 4, 1, 129), (3, 88, 4, 1, 130), (6, 232, 4, 1, 131), (4, 34, 4, 2, 132), (0, 39, 4, 2, 133), (3, 91, 4, 2, 134), (6, 235, 4, 2, 135), (4, 37, 4, 3, 136), (5, 63, 4, 3, 137), (3, 94, 4, 3, 138), (6, 238, 4, 3, 139), (4, 40, 4, 4, 140), (1, 56, 4, 4, 141), (5, 53, 4, 4, 142), (3, 97, 4, 4, 143), (6, 241, 4, 4, 144), (4, 43, 4, 5, 145), (0, 27, 4, 5, 146), (3, 100, 4, 5, 147), (6, 244, 4, 5, 148), (4, 46, 4, 6, 149), (0, 33, 4, 6, 150), (3, 103, 4, 6, 151), (6, 247, 4, 6, 152), (4, 9, 4, 7, 153), (3, 106, 4, 7, 154), (4, 15, 4, 8, 155), (5, 46, 4, 8, 156), (1, 90, 4, 8, 157), (6, 103, 4, 8, 158), (2, 36, 4, 8, 159), (3, 109, 4, 8, 160), (4, 18, 4, 9, 161), (2, 21, 4, 9, 162), (3, 112, 4, 9, 163), (4, 21, 4, 10, 164), (2, 9, 2, 0, 201), (1, 40, 2, 0, 202), (5, 66, 2, 0, 203), (6, 135, 2, 0, 204), (2, 15, 2, 1, 205), (6, 106, 2, 1, 206), (5, 9, 5, 0, 219), (6, 161, 5, 0, 220), (1, 9, 1, 0, 231), (6, 186, 1, 0, 232), (1, 15, 1, 1, 233), (1, 18, 1, 2, 234), (1, 22, 1, 3, 235), (1, 25, 1, 4, 236), (1, 28, 1, 5, 237), (1, 37, 1, 6, 238), (1, 63, 1, 7, 239), (1, 66, 1, 8, 240), (0, 9, 0, 0, 266), (6, 201, 0, 0, 267), (0, 15, 0, 1, 268), (6, 204, 0, 1, 269), (0, 18, 0, 2, 270), (6, 214, 0, 2, 271), (0, 21, 0, 3, 272), (6, 220, 0, 3, 273), (0, 24, 0, 4, 274), (6, 223, 0, 4, 275), (0, 42, 0, 5, 276), (6, 9, 6, 0, 294), (6, 79, 6, 1, 295), (6, 16, 6, 2, 296), (6, 23, 6, 3, 297), (6, 27, 6, 4, 298), (6, 33, 6, 5, 299), (6, 37, 6, 6, 300), (6, 40, 6, 7, 301), (6, 148, 6, 8, 302), (6, 93, 6, 9, 303), (6, 44, 6, 10, 304), (6, 47, 6, 11, 305), (6, 54, 6, 12, 306), (6, 61, 6, 13, 307), (6, 68, 6, 14, 308), (6, 72, 6, 15, 309), (7, 75, 7, 0, 735), (7, 7, 7, 1, 736), (7, 13, 7, 2, 737), (7, 16, 7, 3, 738), (7, 78, 7, 4, 739), (7, 19, 7, 5, 740), (7, 22, 7, 6, 741), (7, 26, 7, 7, 742), (7, 71, 7, 8, 743), (7, 29, 7, 9, 744), (7, 32, 7, 10, 745), (7, 35, 7, 11, 746), (7, 85, 7, 12, 747), (7, 38, 7, 13, 748), (7, 88, 7, 14, 749), (7, 95, 7, 15, 750), (7, 102, 7, 16, 751), (7, 41, 7, 17, 752), (7, 44, 7, 18, 753), (7, 176, 7, 19, 754), (7, 47, 7, 20, 755), (7, 50, 7, 21, 756), (7, 179, 7, 22, 757), (7, 182, 7, 23, 758), (7, 186, 7, 24, 759), (7, 189, 7, 25, 760), (7, 53, 7, 26, 761), (7, 56, 7, 27, 762), (7, 59, 7, 28, 763), (7, 62, 7, 29, 764)]
def m_cls : List (Nat × Nat × Nat × Nat) := [(6, 13, 3, 81), (6, 20, 4, 113), (6, 30, 2, 188), (6, 51, 5, 213), (6, 58, 1, 225), (6, 65, 0, 260)]
def m_cns : List (Nat × Nat × Int × Nat) := [(9, 265, 1431655765, 575), (9, 266, 858993459, 576), (9, 267, 252645135, 577)]
def m_c0 : List (Nat × Instr × Nat) := [(0, .aload_n 0, 1), (1, .invokespecial 3, 3), (4, .aload_n 0, 1), (5, .iconst 3, 1), (6, .newarray .int, 2), (8, .putfield 9, 3), (11, .aload_n 0, 1), (12, .iconst 3, 1), (13, .newarray .int, 2), (15, .putfield 15, 3), (18, .aload_n 0, 1), (19, .sipush 625, 3), (22, .newarray .int, 2), (24, .putfield 18, 3), (27, .aload_n 0, 1), (28, .sipush 625, 3), (31, .newarray .int, 2), (33, .putfield 21, 3), (36, .aload_n 0, 1), (37, .sipush 1875, 3), (40, .newarray .int, 2), (42, .putfield 24, 3), (45, .return_, 1)]
def m_c1 : List (Nat × Instr × Nat) := [(0, .iload_n 0, 1), (1, .bipush 25, 2), (3, .imul, 1), (4, .iload_n 1, 1), (5, .iadd, 1), (6, .ireturn, 1)]
def m_c2 : List (Nat × Instr × Nat) := [(0, .aload_n 0, 1), (1, .getfield 9, 3), (4, .iconst 0, 1), (5, .aload_n 1, 1), (6, .getfield 27, 3), (9, .iastore, 1), (10, .aload_n 0, 1), (11, .getfield 15, 3), (14, .iconst 0, 1), (15, .aload_n 1, 1), (16, .getfield 27, 3), (19, .iastore, 1), (20, .aload_n 0, 1), (21, .getfield 9, 3), (24, .iconst 1, 1), (25, .aload_n 1, 1), (26, .getfield 33, 3), (29, .iastore, 1), (30, .aload_n 0, 1), (31, .getfield 15, 3), (34, .iconst 1, 1), (35, .aload_n 1, 1), (36, .getfield 36, 3), (39, .aload_n 1, 1), (40, .getfield 27, 3), (43, .imul, 1), (44, .iconst 2, 1), (45, .aload_n 1, 1), (46, .getfield 33, 3), (49, .imul, 1), (50, .iadd, 1), (51, .iastore, 1), (52, .aload_n 0, 1), (53, .getfield 9, 3), (56, .iconst 2, 1), (57, .aload_n 1, 1), (58, .getfield 33, 3), (61, .iastore, 1), (62, .aload_n 0, 1), (63, .getfield 15, 3), (66, .iconst 2, 1), (67, .aload_n 1, 1), (68, .getfield 39, 3), (71, .aload_n 1, 1), (72, .getfield 27, 3), (75, .imul, 1), (76, .iconst 2, 1), (77, .aload_n 1, 1), (78, .getfield 33, 3), (81, .imul, 1), (82, .iadd, 1), (83, .iastore, 1), (84, .aload_n 0, 1), (85, .iconst 0, 1), (86, .putfield 42, 3), (89, .return_, 1)]
def m_c3 : List (Nat × Instr × Nat) := [(0, .aload_n 0, 1), (1, .getfield 42, 3), (4, .ifCond .eq 4, 3), (7, .return_, 1), (8, .iconst 1, 1), (9, .istore_n 1, 1), (10, .iload_n 1, 1), (11, .bipush 24, 2), (13, .if_icmp .gt 29, 3), (16, .iconst 1, 1), (17, .istore_n 2, 1), (18, .iload_n 2, 1), (19, .bipush 24, 2), (21, .if_icmp .gt 15, 3), (24, .aload_n 0, 1), (25, .iload_n 1, 1), (26, .iload_n 2, 1), (27, .invokevirtual 46, 3), (30, .iinc 2 1, 3), (33, .goto (-15), 3), (36, .iinc 1 1, 3), (39, .goto (-29), 3), (42, .aload_n 0, 1), (43, .iconst 1, 1), (44, .putfield 42, 3), (47, .return_, 1)]
def m_c4 : List (Nat × Instr × Nat) := [(0, .iload_n 1, 1), (1, .iload_n 2, 1), (2, .invokestatic 50, 3), (5, .istore_n 3, 1), (6, .iconst 0, 1), (7, .istore 4, 2), (9, .iload 4, 2), (11, .iconst 3, 1), (12, .if_icmp .ge 23, 3), (15, .aload_n 0, 1), (16, .getfield 24, 3), (19, .iload 4, 2), (21, .sipush 625, 3), (24, .imul, 1), (25, .iload_n 3, 1), (26, .iadd, 1), (27, .iconst 0, 1), (28, .iastore, 1), (29, .iinc 4 1, 3), (32, .goto (-23), 3), (35, .aload_n 0, 1), (36, .iload_n 1, 1), (37, .iload_n 2, 1), (38, .invokevirtual 54, 3), (41, .istore 4, 2), (43, .iload 4, 2), (45, .ifCond .lt 37, 3), (48, .aload_n 0, 1), (49, .getfield 18, 3), (52, .iload_n 3, 1), (53, .iload_n 1, 1), (54, .iload_n 2, 1), (55, .imul, 1), (56, .iastore, 1), (57, .aload_n 0, 1), (58, .getfield 21, 3), (61, .iload_n 3, 1), (62, .iconst 1, 1), (63, .iload 4, 2), (65, .iadd, 1), (66, .iastore, 1), (67, .aload_n 0, 1), (68, .getfield 24, 3), (71, .iload 4, 2), (73, .sipush 625, 3), (76, .imul, 1), (77, .iload_n 3, 1), (78, .iadd, 1), (79, .iconst 1, 1), (80, .iastore, 1), (81, .return_, 1), (82, .aload_n 0, 1), (83, .getfield 18, 3), (86, .iload_n 3, 1), (87, .iconst 0, 1), (88, .iastore, 1), (89, .aload_n 0, 1), (90, .getfield 21, 3), (93, .iload_n 3, 1), (94, .iconst 0, 1), (95, .iastore, 1), (96, .iconst 1, 1), (97, .istore 5, 2), (99, .iload 5, 2), (101, .iload_n 1, 1), (102, .iconst 2, 1), (103, .idiv, 1), (104, .if_icmp .gt 33, 3), (107, .aload_n 0, 1), (108, .iload_n 3, 1), (109, .bipush 100, 2), (111, .iload 5, 2), (113, .iadd, 1), (114, .iload 5, 2), (116, .iload_n 2, 1), (117, .invokestatic 50, 3), (120, .iload_n 1, 1), (121, .iload 5, 2), (123, .isub, 1), (124, .iload_n 2, 1), (125, .invokestatic 50, 3), (128, .invokevirtual 57, 3), (131, .iinc 5 1, 3), (134, .goto (-35), 3), (137, .iconst 1, 1), (138, .istore 5, 2), (140, .iload 5, 2), (142, .iload_n 2, 1), (143, .iconst 2, 1), (144, .idiv, 1), (145, .if_icmp .gt 34, 3), (148, .aload_n 0, 1), (149, .iload_n 3, 1), (150, .sipush 200, 3), (153, .iload 5, 2), (155, .iadd, 1), (156, .iload_n 1, 1), (157, .iload 5, 2), (159, .invokestatic 50, 3), (162, .iload_n 1, 1), (163, .iload_n 2, 1), (164, .iload 5, 2), (166, .isub, 1), (167, .invokestatic 50, 3), (170, .invokevirtual 57, 3), (173, .iinc 5 1, 3), (176, .goto (-36), 3), (179, .return_, 1)]
def m_c5 : List (Nat × Instr × Nat) := [(0, .aload_n 0, 1), (1, .getfield 18, 3), (4, .iload_n 3, 1), (5, .iaload, 1), (6, .aload_n 0, 1), (7, .getfield 18, 3), (10, .iload 4, 2), (12, .iaload, 1), (13, .iadd, 1), (14, .istore 5, 2), (16, .iload 5, 2), (18, .aload_n 0, 1), (19, .getfield 18, 3), (22, .iload_n 1, 1), (23, .iaload, 1), (24, .if_icmp .gt 4, 3), (27, .return_, 1), (28, .aload_n 0, 1), (29, .getfield 18, 3), (32, .iload_n 1, 1), (33, .iload 5, 2), (35, .iastore, 1), (36, .aload_n 0, 1), (37, .getfield 21, 3), (40, .iload_n 1, 1), (41, .iload_n 2, 1), (42, .iastore, 1), (43, .iconst 0, 1), (44, .istore 6, 2), (46, .iload 6, 2), (48, .iconst 3, 1), (49, .if_icmp .ge 46, 3), (52, .iload 6, 2), (54, .sipush 625, 3), (57, .imul, 1), (58, .istore 7, 2), (60, .aload_n 0, 1), (61, .getfield 24, 3), (64, .iload 7, 2), (66, .iload_n 1, 1), (67, .iadd, 1), (68, .aload_n 0, 1), (69, .getfield 24, 3), (72, .iload 7, 2), (74, .iload_n 3, 1), (75, .iadd, 1), (76, .iaload, 1), (77, .aload_n 0, 1), (78, .getfield 24, 3), (81, .iload 7, 2), (83, .iload 4, 2), (85, .iadd, 1), (86, .iaload, 1), (87, .iadd, 1), (88, .iastore, 1), (89, .iinc 6 1, 3), (92, .goto (-46), 3), (95, .return_, 1)]
def m_c6 : List (Nat × Instr × Nat) := [(0, .iload_n 1, 1), (1, .iload_n 2, 1), (2, .invokestatic 61, 3), (5, .istore_n 3, 1), (6, .iload_n 1, 1), (7, .iload_n 2, 1), (8, .invokestatic 66, 3), (11, .istore 4, 2), (13, .iconst 0, 1), (14, .istore 5, 2), (16, .iload 5, 2), (18, .iconst 3, 1), (19, .if_icmp .ge 35, 3), (22, .aload_n 0, 1), (23, .getfield 9, 3), (26, .iload 5, 2), (28, .iaload, 1), (29, .iload_n 3, 1), (30, .if_icmp .ne 18, 3), (33, .aload_n 0, 1), (34, .getfield 15, 3), (37, .iload 5, 2), (39, .iaload, 1), (40, .iload 4, 2), (42, .if_icmp .ne 6, 3), (45, .iload 5, 2), (47, .ireturn, 1), (48, .iinc 5 1, 3), (51, .goto (-35), 3), (54, .bipush (-9), 2), (56, .ireturn, 1)]
def m_c7 : List (Nat × Instr × Nat) := [(0, .aload_n 0, 1), (1, .invokespecial 3, 3), (4, .aload_n 0, 1), (5, .bipush 6, 2), (7, .newarray .int, 2), (9, .putfield 9, 3), (12, .aload_n 0, 1), (13, .bipush 6, 2), (15, .newarray .int, 2), (17, .putfield 15, 3), (20, .aload_n 0, 1), (21, .bipush 6, 2), (23, .newarray .boolean, 2), (25, .putfield 18, 3), (28, .aload_n 0, 1), (29, .bipush 6, 2), (31, .newarray .int, 2), (33, .putfield 22, 3), (36, .aload_n 0, 1), (37, .bipush 6, 2), (39, .newarray .int, 2), (41, .putfield 25, 3), (44, .aload_n 0, 1), (45, .bipush 6, 2), (47, .newarray .int, 2), (49, .putfield 28, 3), (52, .return_, 1)]
def m_c8 : List (Nat × Instr × Nat) := [(0, .aload_n 0, 1), (1, .aload_n 1, 1), (2, .invokevirtual 31, 3), (5, .putfield 37, 3), (8, .iconst 0, 1), (9, .istore 5, 2), (11, .iconst 0, 1), (12, .istore 6, 2), (14, .iload 6, 2), (16, .bipush 6, 2), (18, .if_icmp .ge 95, 3), (21, .aload_n 0, 1), (22, .getfield 15, 3), (25, .iload 6, 2), (27, .aload_n 2, 1), (28, .getfield 40, 3), (31, .iload 6, 2), (33, .iaload, 1), (34, .iastore, 1), (35, .aload_n 0, 1), (36, .getfield 18, 3), (39, .iload 6, 2), (41, .iload 6, 2), (43, .aload_n 0, 1), (44, .getfield 37, 3), (47, .if_icmp .ge 16, 3), (50, .aload_n 2, 1), (51, .iload 6, 2), (53, .invokevirtual 45, 3), (56, .ifCond .eq 7, 3), (59, .iconst 1, 1), (60, .goto 4, 3), (63, .iconst 0, 1), (64, .bastore, 1), (65, .aload_n 0, 1), (66, .getfield 22, 3), (69, .iload 6, 2), (71, .iload 6, 2), (73, .aload_n 3, 1), (74, .arraylength, 1), (75, .if_icmp .ge 10, 3), (78, .aload_n 3, 1), (79, .iload 6, 2), (81, .iaload, 1), (82, .goto 4, 3), (85, .iconst 0, 1), (86, .iastore, 1), (87, .iload 5, 2), (89, .aload_n 0, 1), (90, .getfield 18, 3), (93, .iload 6, 2), (95, .baload, 1), (96, .ifCond .eq 7, 3), (99, .iconst 1, 1), (100, .goto 4, 3), (103, .iconst 0, 1), (104, .iadd, 1), (105, .istore 5, 2), (107, .iinc 6 1, 3), (110, .goto (-96), 3), (113, .iconst 0, 1), (114, .istore 6, 2), (116, .iload 6, 2), (118, .bipush 6, 2), (120, .if_icmp .ge 35, 3), (123, .aload_n 0, 1), (124, .getfield 25, 3), (127, .iload 6, 2), (129, .iload 6, 2), (131, .aload_n 1, 1), (132, .getfield 49, 3), (135, .if_icmp .ge 12, 3), (138, .aload_n 2, 1), (139, .iload 6, 2), (141, .invokevirtual 52, 3), (144, .goto 4, 3), (147, .iconst 0, 1), (148, .iastore, 1), (149, .iinc 6 1, 3), (152, .goto (-36), 3), (155, .iconst 0, 1), (156, .istore 6, 2), (158, .iload 6, 2), (160, .bipush 6, 2), (162, .if_icmp .ge 28, 3), (165, .aload_n 0, 1), (166, .getfield 28, 3), (169, .iload 6, 2), (171, .aload_n 1, 1), (172, .getfield 56, 3), (175, .aload_n 2, 1), (176, .aload_n 1, 1), (177, .iload 6, 2), (179, .invokevirtual 59, 3), (182, .isub, 1), (183, .iastore, 1), (184, .iinc 6 1, 3), (187, .goto (-29), 3), (190, .aload_n 0, 1), (191, .iconst 0, 1), (192, .putfield 63, 3), (195, .aload_n 0, 1), (196, .iload 4, 2), (198, .putfield 66, 3), (201, .aload_n 0, 1), (202, .aload_n 1, 1), (203, .invokevirtual 69, 3), (206, .iload 5, 2), (208, .if_icmp .lt 9, 3), (211, .aload_n 0, 1), (212, .aload_n 1, 1), (213, .iconst 0, 1), (214, .invokevirtual 73, 3), (217, .aload_n 0, 1), (218, .getfield 63, 3), (221, .ireturn, 1)]
def m_c9 : List (Nat × Instr × Nat) := [(0, .iload_n 2, 1), (1, .ifCond .lt 17, 3), (4, .iload_n 2, 1), (5, .aload_n 0, 1), (6, .getfield 37, 3), (9, .if_icmp .ge 9, 3), (12, .iload_n 2, 1), (13, .bipush 6, 2), (15, .if_icmp .lt 29, 3), (18, .aload_n 0, 1), (19, .dup, 1), (20, .getfield 63, 3), (23, .iconst 1, 1), (24, .iadd, 1), (25, .putfield 63, 3), (28, .aload_n 0, 1), (29, .getfield 15, 3), (32, .iconst 0, 1), (33, .aload_n 0, 1), (34, .getfield 9, 3), (37, .iconst 0, 1), (38, .bipush 6, 2), (40, .invokestatic 77, 3), (43, .return_, 1), (44, .aload_n 0, 1), (45, .getfield 18, 3), (48, .iload_n 2, 1), (49, .baload, 1), (50, .ifCond .ne 12, 3), (53, .aload_n 0, 1), (54, .aload_n 1, 1), (55, .iload_n 2, 1), (56, .iconst 1, 1), (57, .iadd, 1), (58, .invokevirtual 73, 3), (61, .return_, 1), (62, .aload_n 0, 1), (63, .aload_n 1, 1), (64, .iload_n 2, 1), (65, .invokevirtual 83, 3), (68, .istore_n 3, 1), (69, .iconst 0, 1), (70, .istore 4, 2), (72, .iload 4, 2), (74, .bipush 24, 2), (76, .if_icmp .ge 38, 3), (79, .aload_n 0, 1), (80, .getfield 63, 3), (83, .aload_n 0, 1), (84, .getfield 66, 3), (87, .if_icmp .ge 27, 3), (90, .iload_n 3, 1), (91, .iload 4, 2), (93, .ishr, 1), (94, .iconst 1, 1), (95, .iand, 1), (96, .iconst 1, 1), (97, .if_icmp .ne 11, 3), (100, .aload_n 0, 1), (101, .aload_n 1, 1), (102, .iload_n 2, 1), (103, .iload 4, 2), (105, .invokevirtual 86, 3), (108, .iinc 4 1, 3), (111, .goto (-39), 3), (114, .return_, 1)]
def m_c10 : List (Nat × Instr × Nat) := [(0, .iload_n 3, 1), (1, .iconst 4, 1), (2, .idiv, 1), (3, .istore 4, 2), (5, .iload 4, 2), (7, .ifCond .lt 20, 3), (10, .iload 4, 2), (12, .bipush 6, 2), (14, .if_icmp .ge 13, 3), (17, .aload_n 0, 1), (18, .getfield 25, 3), (21, .iload 4, 2), (23, .iaload, 1), (24, .ifCond .gt 4, 3), (27, .return_, 1), (28, .aload_n 1, 1), (29, .getfield 90, 3), (32, .iload 4, 2), (34, .iaload, 1), (35, .istore 5, 2), (37, .iload 5, 2), (39, .ifCond .lt 20, 3), (42, .iload 5, 2), (44, .bipush 6, 2), (46, .if_icmp .ge 13, 3), (49, .aload_n 0, 1), (50, .getfield 28, 3), (53, .iload 5, 2), (55, .iaload, 1), (56, .ifCond .gt 4, 3), (59, .return_, 1), (60, .aload_n 0, 1), (61, .getfield 15, 3), (64, .iload_n 2, 1), (65, .iload_n 3, 1), (66, .iastore, 1), (67, .aload_n 0, 1), (68, .getfield 25, 3), (71, .iload 4, 2), (73, .dup2, 1), (74, .iaload, 1), (75, .iconst 1, 1), (76, .isub, 1), (77, .iastore, 1), (78, .aload_n 0, 1), (79, .getfield 28, 3), (82, .iload 5, 2), (84, .dup2, 1), (85, .iaload, 1), (86, .iconst 1, 1), (87, .isub, 1), (88, .iastore, 1), (89, .aload_n 0, 1), (90, .aload_n 1, 1), (91, .iload_n 2, 1), (92, .iconst 1, 1), (93, .iadd, 1), (94, .invokevirtual 73, 3), (97, .aload_n 0, 1), (98, .getfield 28, 3), (101, .iload 5, 2), (103, .dup2, 1), (104, .iaload, 1), (105, .iconst 1, 1), (106, .iadd, 1), (107, .iastore, 1), (108, .aload_n 0, 1), (109, .getfield 25, 3), (112, .iload 4, 2), (114, .dup2, 1), (115, .iaload, 1), (116, .iconst 1, 1), (117, .iadd, 1), (118, .iastore, 1), (119, .return_, 1)]
def m_c11 : List (Nat × Instr × Nat) := [(0, .iconst 0, 1), (1, .istore_n 2, 1), (2, .iconst 0, 1), (3, .istore_n 3, 1), (4, .iload_n 3, 1), (5, .bipush 6, 2), (7, .if_icmp .ge 79, 3), (10, .iconst 0, 1), (11, .istore 4, 2), (13, .iconst 0, 1), (14, .istore 5, 2), (16, .iload 5, 2), (18, .aload_n 1, 1), (19, .getfield 49, 3), (22, .if_icmp .ge 40, 3), (25, .iload 4, 2), (27, .aload_n 1, 1), (28, .getfield 90, 3), (31, .iload 5, 2), (33, .iaload, 1), (34, .iload_n 3, 1), (35, .if_icmp .ne 17, 3), (38, .aload_n 0, 1), (39, .getfield 25, 3), (42, .iload 5, 2), (44, .iaload, 1), (45, .iconst 0, 1), (46, .invokestatic 93, 3), (49, .goto 4, 3), (52, .iconst 0, 1), (53, .iadd, 1), (54, .istore 4, 2), (56, .iinc 5 1, 3), (59, .goto (-43), 3), (62, .iload_n 2, 1), (63, .iload 4, 2), (65, .aload_n 0, 1), (66, .getfield 28, 3), (69, .iload_n 3, 1), (70, .iaload, 1), (71, .invokestatic 99, 3), (74, .iconst 0, 1), (75, .invokestatic 93, 3), (78, .iadd, 1), (79, .istore_n 2, 1), (80, .iinc 3 1, 3), (83, .goto (-79), 3), (86, .iload_n 2, 1), (87, .ireturn, 1)]
def m_c12 : List (Nat × Instr × Nat) := [(0, .aload_n 0, 1), (1, .getfield 22, 3), (4, .iload_n 2, 1), (5, .iaload, 1), (6, .istore_n 3, 1), (7, .aload_n 1, 1), (8, .iload_n 2, 1), (9, .iconst 0, 1), (10, .invokevirtual 102, 3), (13, .istore 4, 2), (15, .iload 4, 2), (17, .ifCond .lt 30, 3), (20, .iload 4, 2), (22, .bipush 6, 2), (24, .if_icmp .ge 23, 3), (27, .iload_n 3, 1), (28, .aload_n 1, 1), (29, .iconst 0, 1), (30, .aload_n 1, 1), (31, .aload_n 0, 1), (32, .getfield 15, 3), (35, .iload 4, 2), (37, .iaload, 1), (38, .iconst 2, 1), (39, .invokevirtual 105, 3), (42, .invokevirtual 108, 3), (45, .iand, 1), (46, .istore_n 3, 1), (47, .aload_n 1, 1), (48, .iload_n 2, 1), (49, .iconst 3, 1), (50, .invokevirtual 102, 3), (53, .istore 5, 2), (55, .iload 5, 2), (57, .ifCond .lt 30, 3), (60, .iload 5, 2), (62, .bipush 6, 2), (64, .if_icmp .ge 23, 3), (67, .iload_n 3, 1), (68, .aload_n 1, 1), (69, .iconst 3, 1), (70, .aload_n 1, 1), (71, .aload_n 0, 1), (72, .getfield 15, 3), (75, .iload 5, 2), (77, .iaload, 1), (78, .iconst 1, 1), (79, .invokevirtual 105, 3), (82, .invokevirtual 108, 3), (85, .iand, 1), (86, .istore_n 3, 1), (87, .iload_n 3, 1), (88, .ireturn, 1)]
def m_c13 : List (Nat × Instr × Nat) := [(0, .aload_n 0, 1), (1, .invokespecial 3, 3), (4, .aload_n 0, 1), (5, .bipush 6, 2), (7, .newarray .int, 2), (9, .putfield 9, 3), (12, .aload_n 0, 1), (13, .bipush 6, 2), (15, .newarray .int, 2), (17, .putfield 15, 3), (20, .aload_n 0, 1), (21, .invokevirtual 18, 3), (24, .return_, 1)]
def m_c14 : List (Nat × Instr × Nat) := [(0, .aload_n 0, 1), (1, .invokevirtual 18, 3), (4, .aload_n 1, 1), (5, .getfield 21, 3), (8, .iconst 0, 1), (9, .aload_n 0, 1), (10, .getfield 15, 3), (13, .iconst 0, 1), (14, .bipush 6, 2), (16, .invokestatic 24, 3), (19, .return_, 1)]
def m_c15 : List (Nat × Instr × Nat) := [(0, .aload_n 1, 1), (1, .getfield 9, 3), (4, .iconst 0, 1), (5, .aload_n 0, 1), (6, .getfield 9, 3), (9, .iconst 0, 1), (10, .bipush 6, 2), (12, .invokestatic 24, 3), (15, .aload_n 1, 1), (16, .getfield 15, 3), (19, .iconst 0, 1), (20, .aload_n 0, 1), (21, .getfield 15, 3), (24, .iconst 0, 1), (25, .bipush 6, 2), (27, .invokestatic 24, 3), (30, .return_, 1)]
def m_c16 : List (Nat × Instr × Nat) := [(0, .aload_n 0, 1), (1, .getfield 9, 3), (4, .bipush (-9), 2), (6, .invokestatic 30, 3), (9, .return_, 1)]
def m_c17 : List (Nat × Instr × Nat) := [(0, .iload_n 1, 1), (1, .ifCond .lt 24, 3), (4, .iload_n 1, 1), (5, .bipush 6, 2), (7, .if_icmp .ge 18, 3), (10, .aload_n 0, 1), (11, .getfield 9, 3), (14, .iload_n 1, 1), (15, .iaload, 1), (16, .bipush (-9), 2), (18, .if_icmp .ne 7, 3), (21, .iconst 1, 1), (22, .goto 4, 3), (25, .iconst 0, 1), (26, .ireturn, 1)]
def m_c18 : List (Nat × Instr × Nat) := [(0, .iload_n 1, 1), (1, .ifCond .lt 9, 3), (4, .iload_n 1, 1), (5, .bipush 6, 2), (7, .if_icmp .lt 5, 3), (10, .iconst 0, 1), (11, .ireturn, 1), (12, .iconst 0, 1), (13, .istore_n 2, 1), (14, .iconst 0, 1), (15, .istore_n 3, 1), (16, .iload_n 3, 1), (17, .bipush 6, 2), (19, .if_icmp .ge 33, 3), (22, .aload_n 0, 1), (23, .getfield 9, 3), (26, .iload_n 3, 1), (27, .iaload, 1), (28, .ifCond .lt 18, 3), (31, .aload_n 0, 1), (32, .getfield 9, 3), (35, .iload_n 3, 1), (36, .iaload, 1), (37, .iconst 4, 1), (38, .idiv, 1), (39, .iload_n 1, 1), (40, .if_icmp .ne 6, 3), (43, .iinc 2 1, 3), (46, .iinc 3 1, 3), (49, .goto (-33), 3), (52, .aload_n 0, 1), (53, .getfield 15, 3), (56, .iload_n 1, 1), (57, .iaload, 1), (58, .iload_n 2, 1), (59, .isub, 1), (60, .ireturn, 1)]
def m_c19 : List (Nat × Instr × Nat) := [(0, .iconst 0, 1), (1, .istore_n 3, 1), (2, .iconst 0, 1), (3, .istore 4, 2), (5, .iload 4, 2), (7, .bipush 6, 2), (9, .if_icmp .ge 51, 3), (12, .aload_n 0, 1), (13, .getfield 9, 3), (16, .iload 4, 2), (18, .iaload, 1), (19, .iconst 4, 1), (20, .idiv, 1), (21, .istore 5, 2), (23, .aload_n 0, 1), (24, .getfield 9, 3), (27, .iload 4, 2), (29, .iaload, 1), (30, .ifCond .lt 24, 3), (33, .iload 5, 2), (35, .bipush 6, 2), (37, .if_icmp .ge 17, 3), (40, .aload_n 1, 1), (41, .getfield 36, 3), (44, .iload 5, 2), (46, .iaload, 1), (47, .iload_n 2, 1), (48, .if_icmp .ne 6, 3), (51, .iinc 3 1, 3), (54, .iinc 4 1, 3), (57, .goto (-52), 3), (60, .iload_n 3, 1), (61, .ireturn, 1)]
def m_c20 : List (Nat × Instr × Nat) := [(0, .aload_n 0, 1), (1, .invokespecial 3, 3), (4, .return_, 1)]
def m_c21 : List (Nat × Instr × Nat) := [(0, .aload_n 0, 1), (1, .aload_n 1, 1), (2, .invokevirtual 9, 3), (5, .iload_n 3, 1), (6, .aload_n 2, 1), (7, .arraylength, 1), (8, .invokestatic 15, 3), (11, .istore 4, 2), (13, .iconst 0, 1), (14, .istore 5, 2), (16, .aload_n 0, 1), (17, .aload_n 2, 1), (18, .iload 4, 2), (20, .invokevirtual 21, 3), (23, .aload_n 0, 1), (24, .getfield 25, 3), (27, .iconst (-1), 1), (28, .if_icmp .eq 42, 3), (31, .iload 5, 2), (33, .bipush 120, 2), (35, .if_icmp .gt 35, 3), (38, .aload_n 0, 1), (39, .aload_n 1, 1), (40, .aload_n 2, 1), (41, .iload 4, 2), (43, .invokevirtual 29, 3), (46, .ifCond .ne 11, 3), (49, .bipush (-10), 2), (51, .aload_n 0, 1), (52, .getfield 33, 3), (55, .isub, 1), (56, .ireturn, 1), (57, .iinc 5 1, 3), (60, .aload_n 0, 1), (61, .aload_n 2, 1), (62, .iload 4, 2), (64, .invokevirtual 21, 3), (67, .goto (-44), 3), (70, .iload 5, 2), (72, .ireturn, 1)]
def m_c22 : List (Nat × Instr × Nat) := [(0, .aload_n 1, 1), (1, .invokevirtual 36, 3), (4, .aload_n 0, 1), (5, .iconst 0, 1), (6, .putfield 40, 3), (9, .aload_n 0, 1), (10, .iconst 0, 1), (11, .putfield 43, 3), (14, .aload_n 0, 1), (15, .iconst 0, 1), (16, .putfield 47, 3), (19, .aload_n 0, 1), (20, .iconst 0, 1), (21, .putfield 50, 3), (24, .aload_n 0, 1), (25, .iconst 0, 1), (26, .putfield 53, 3), (29, .return_, 1)]
def m_c23 : List (Nat × Instr × Nat) := [(0, .aload_n 0, 1), (1, .getfield 25, 3), (4, .istore 4, 2), (6, .aload_n 0, 1), (7, .aload_n 1, 1), (8, .iload 4, 2), (10, .invokevirtual 56, 3), (13, .ifCond .ne 5, 3), (16, .iconst 0, 1), (17, .ireturn, 1), (18, .aload_n 1, 1), (19, .getfield 60, 3), (22, .istore 5, 2), (24, .iconst 0, 1), (25, .istore 6, 2), (27, .iload 6, 2), (29, .iload 4, 2), (31, .invokestatic 63, 3), (34, .if_icmp .ge 63, 3), (37, .aload_n 0, 1), (38, .aload_n 2, 1), (39, .iload_n 3, 1), (40, .invokevirtual 21, 3), (43, .aload_n 0, 1), (44, .getfield 25, 3), (47, .bipush (-2), 2), (49, .if_icmp .ne 29, 3), (52, .aload_n 0, 1), (53, .getfield 67, 3), (56, .iload 4, 2), (58, .invokestatic 70, 3), (61, .if_icmp .lt 17, 3), (64, .aload_n 0, 1), (65, .getfield 67, 3), (68, .iload 4, 2), (70, .iload 6, 2), (72, .invokestatic 73, 3), (75, .if_icmp .le 5, 3), (78, .iconst 0, 1), (79, .ireturn, 1), (80, .aload_n 0, 1), (81, .aload_n 1, 1), (82, .iload 4, 2), (84, .iload 5, 2), (86, .iload 6, 2), (88, .invokevirtual 76, 3), (91, .iinc 6 1, 3), (94, .goto (-67), 3), (97, .aload_n 0, 1), (98, .aload_n 2, 1), (99, .iload_n 3, 1), (100, .invokevirtual 21, 3), (103, .aload_n 0, 1), (104, .getfield 25, 3), (107, .bipush 59, 2), (109, .if_icmp .eq 5, 3), (112, .iconst 0, 1), (113, .ireturn, 1), (114, .iload 4, 2), (116, .bipush 107, 2), (118, .if_icmp .ne 11, 3), (121, .aload_n 1, 1), (122, .iload 5, 2), (124, .iconst 1, 1), (125, .iadd, 1), (126, .putfield 60, 3), (129, .iconst 1, 1), (130, .ireturn, 1)]
def m_c24 : List (Nat × Instr × Nat) := [(0, .iload_n 2, 1), (1, .lookupswitch 153 #[(101, 90), (107, 51), (109, 111), (115, 132), (119, 69)], 51), (52, .aload_n 1, 1), (53, .getfield 60, 3), (56, .bipush 6, 2), (58, .if_icmp .ge 7, 3), (61, .iconst 1, 1), (62, .goto 4, 3), (65, .iconst 0, 1), (66, .istore_n 3, 1), (67, .goto 89, 3), (70, .aload_n 0, 1), (71, .getfield 43, 3), (74, .ifCond .ne 7, 3), (77, .iconst 1, 1), (78, .goto 4, 3), (81, .iconst 0, 1), (82, .istore_n 3, 1), (83, .aload_n 0, 1), (84, .iconst 1, 1), (85, .putfield 43, 3), (88, .goto 68, 3), (91, .aload_n 0, 1), (92, .getfield 47, 3), (95, .ifCond .ne 7, 3), (98, .iconst 1, 1), (99, .goto 4, 3), (102, .iconst 0, 1), (103, .istore_n 3, 1), (104, .aload_n 0, 1), (105, .iconst 1, 1), (106, .putfield 47, 3), (109, .goto 47, 3), (112, .aload_n 0, 1), (113, .getfield 50, 3), (116, .ifCond .ne 7, 3), (119, .iconst 1, 1), (120, .goto 4, 3), (123, .iconst 0, 1), (124, .istore_n 3, 1), (125, .aload_n 0, 1), (126, .iconst 1, 1), (127, .putfield 50, 3), (130, .goto 26, 3), (133, .aload_n 0, 1), (134, .getfield 53, 3), (137, .ifCond .ne 7, 3), (140, .iconst 1, 1), (141, .goto 4, 3), (144, .iconst 0, 1), (145, .istore_n 3, 1), (146, .aload_n 0, 1), (147, .iconst 1, 1), (148, .putfield 53, 3), (151, .goto 5, 3), (154, .iconst 0, 1), (155, .istore_n 3, 1), (156, .iload_n 3, 1), (157, .ireturn, 1)]
def m_c25 : List (Nat × Instr × Nat) := [(0, .iload_n 0, 1), (1, .lookupswitch 42 #[(107, 35), (115, 40), (119, 40)], 35), (36, .getstatic 80, 3), (39, .arraylength, 1), (40, .ireturn, 1), (41, .iconst 2, 1), (42, .ireturn, 1), (43, .iconst 1, 1), (44, .ireturn, 1)]
def m_c26 : List (Nat × Instr × Nat) := [(0, .iload_n 0, 1), (1, .bipush 107, 2), (3, .if_icmp .eq 9, 3), (6, .iload_n 0, 1), (7, .bipush 101, 2), (9, .if_icmp .ne 7, 3), (12, .iconst 0, 1), (13, .goto 4, 3), (16, .iconst 1, 1), (17, .ireturn, 1)]
def m_c27 : List (Nat × Instr × Nat) := [(0, .iload_n 0, 1), (1, .lookupswitch 78 #[(107, 35), (115, 67), (119, 57)], 35), (36, .iload_n 1, 1), (37, .ifCond .lt 19, 3), (40, .iload_n 1, 1), (41, .getstatic 80, 3), (44, .arraylength, 1), (45, .if_icmp .ge 11, 3), (48, .getstatic 80, 3), (51, .iload_n 1, 1), (52, .iaload, 1), (53, .goto 4, 3), (56, .iconst (-1), 1), (57, .ireturn, 1), (58, .iload_n 1, 1), (59, .ifCond .ne 7, 3), (62, .iconst 3, 1), (63, .goto 4, 3), (66, .iconst 2, 1), (67, .ireturn, 1), (68, .iload_n 1, 1), (69, .ifCond .ne 8, 3), (72, .bipush 9, 2), (74, .goto 4, 3), (77, .iconst 4, 1), (78, .ireturn, 1), (79, .bipush 9, 2), (81, .ireturn, 1)]
def m_c28 : List (Nat × Instr × Nat) := [(0, .iload_n 2, 1), (1, .lookupswitch 103 #[(101, 81), (107, 43), (109, 92), (119, 54)], 43), (44, .aload_n 0, 1), (45, .aload_n 1, 1), (46, .iload_n 3, 1), (47, .iload 4, 2), (49, .invokevirtual 84, 3), (52, .goto 76, 3), (55, .iload 4, 2), (57, .ifCond .ne 14, 3), (60, .aload_n 1, 1), (61, .aload_n 0, 1), (62, .getfield 67, 3), (65, .putfield 88, 3), (68, .goto 60, 3), (71, .aload_n 1, 1), (72, .aload_n 0, 1), (73, .getfield 67, 3), (76, .putfield 91, 3), (79, .goto 49, 3), (82, .aload_n 1, 1), (83, .aload_n 0, 1), (84, .getfield 67, 3), (87, .putfield 94, 3), (90, .goto 38, 3), (93, .aload_n 1, 1), (94, .aload_n 0, 1), (95, .getfield 67, 3), (98, .putfield 97, 3), (101, .goto 27, 3), (104, .iload 4, 2), (106, .ifCond .ne 14, 3), (109, .aload_n 1, 1), (110, .aload_n 0, 1), (111, .getfield 67, 3), (114, .putfield 100, 3), (117, .goto 11, 3), (120, .aload_n 1, 1), (121, .aload_n 0, 1), (122, .getfield 67, 3), (125, .putfield 103, 3), (128, .return_, 1)]
def m_c29 : List (Nat × Instr × Nat) := [(0, .iload_n 2, 1), (1, .ifCond .lt 13, 3), (4, .iload_n 2, 1), (5, .bipush 6, 2), (7, .if_icmp .ge 7, 3), (10, .iload_n 3, 1), (11, .ifCond .ge 4, 3), (14, .return_, 1), (15, .iload_n 3, 1), (16, .iconst 4, 1), (17, .if_icmp .ge 20, 3), (20, .aload_n 1, 1), (21, .getfield 106, 3), (24, .iload_n 2, 1), (25, .iconst 4, 1), (26, .imul, 1), (27, .iload_n 3, 1), (28, .iadd, 1), (29, .aload_n 0, 1), (30, .getfield 67, 3), (33, .iastore, 1), (34, .goto 31, 3), (37, .iload_n 3, 1), (38, .iconst 4, 1), (39, .if_icmp .ne 16, 3), (42, .aload_n 1, 1), (43, .getfield 109, 3), (46, .iload_n 2, 1), (47, .aload_n 0, 1), (48, .getfield 67, 3), (51, .iastore, 1), (52, .goto 13, 3), (55, .aload_n 1, 1), (56, .getfield 112, 3), (59, .iload_n 2, 1), (60, .aload_n 0, 1), (61, .getfield 67, 3), (64, .iastore, 1), (65, .return_, 1)]
def m_c30 : List (Nat × Instr × Nat) := [(0, .aload_n 0, 1), (1, .getfield 40, 3), (4, .iload_n 2, 1), (5, .if_icmp .ge 27, 3), (8, .aload_n 1, 1), (9, .aload_n 0, 1), (10, .getfield 40, 3), (13, .iaload, 1), (14, .bipush 32, 2), (16, .if_icmp .ne 16, 3), (19, .aload_n 0, 1), (20, .dup, 1), (21, .getfield 40, 3), (24, .iconst 1, 1), (25, .iadd, 1), (26, .putfield 40, 3), (29, .goto (-29), 3), (32, .aload_n 0, 1), (33, .aload_n 0, 1), (34, .getfield 40, 3), (37, .putfield 33, 3), (40, .aload_n 0, 1), (41, .getfield 40, 3), (44, .iload_n 2, 1), (45, .if_icmp .lt 9, 3), (48, .aload_n 0, 1), (49, .iconst (-1), 1), (50, .putfield 25, 3), (53, .return_, 1), (54, .aload_n 1, 1), (55, .aload_n 0, 1), (56, .getfield 40, 3), (59, .iaload, 1), (60, .istore_n 3, 1), (61, .iload_n 3, 1), (62, .invokestatic 115, 3), (65, .ifCond .eq 10, 3), (68, .aload_n 0, 1), (69, .aload_n 1, 1), (70, .iload_n 2, 1), (71, .invokevirtual 119, 3), (74, .return_, 1), (75, .aload_n 0, 1), (76, .dup, 1), (77, .getfield 40, 3), (80, .iconst 1, 1), (81, .iadd, 1), (82, .putfield 40, 3), (85, .aload_n 0, 1), (86, .iload_n 3, 1), (87, .invokestatic 122, 3), (90, .ifCond .eq 7, 3), (93, .iload_n 3, 1), (94, .goto 5, 3), (97, .bipush (-3), 2), (99, .putfield 25, 3), (102, .return_, 1)]
def m_c31 : List (Nat × Instr × Nat) := [(0, .aload_n 0, 1), (1, .iconst 0, 1), (2, .putfield 67, 3), (5, .aload_n 0, 1), (6, .getfield 40, 3), (9, .iload_n 2, 1), (10, .if_icmp .ge 54, 3), (13, .aload_n 1, 1), (14, .aload_n 0, 1), (15, .getfield 40, 3), (18, .iaload, 1), (19, .invokestatic 115, 3), (22, .ifCond .eq 42, 3), (25, .aload_n 0, 1), (26, .aload_n 0, 1), (27, .getfield 67, 3), (30, .bipush 10, 2), (32, .imul, 1), (33, .aload_n 1, 1), (34, .aload_n 0, 1), (35, .getfield 40, 3), (38, .iaload, 1), (39, .iadd, 1), (40, .bipush 48, 2), (42, .isub, 1), (43, .bipush 100, 2), (45, .invokestatic 15, 3), (48, .putfield 67, 3), (51, .aload_n 0, 1), (52, .dup, 1), (53, .getfield 40, 3), (56, .iconst 1, 1), (57, .iadd, 1), (58, .putfield 40, 3), (61, .goto (-56), 3), (64, .aload_n 0, 1), (65, .getfield 40, 3), (68, .aload_n 0, 1), (69, .getfield 33, 3), (72, .isub, 1), (73, .iconst 1, 1), (74, .if_icmp .le 18, 3), (77, .aload_n 1, 1), (78, .aload_n 0, 1), (79, .getfield 33, 3), (82, .iaload, 1), (83, .bipush 48, 2), (85, .if_icmp .ne 7, 3), (88, .iconst 1, 1), (89, .goto 4, 3), (92, .iconst 0, 1), (93, .istore_n 3, 1), (94, .aload_n 0, 1), (95, .aload_n 0, 1), (96, .getfield 67, 3), (99, .bipush 99, 2), (101, .if_icmp .gt 7, 3), (104, .iload_n 3, 1), (105, .ifCond .eq 8, 3), (108, .bipush (-3), 2), (110, .goto 5, 3), (113, .bipush (-2), 2), (115, .putfield 25, 3), (118, .return_, 1)]
def m_c32 : List (Nat × Instr × Nat) := [(0, .iload_n 0, 1), (1, .bipush 48, 2), (3, .if_icmp .lt 13, 3), (6, .iload_n 0, 1), (7, .bipush 57, 2), (9, .if_icmp .gt 7, 3), (12, .iconst 1, 1), (13, .goto 4, 3), (16, .iconst 0, 1), (17, .ireturn, 1)]
def m_c33 : List (Nat × Instr × Nat) := [(0, .iload_n 0, 1), (1, .bipush 107, 2), (3, .if_icmp .eq 33, 3), (6, .iload_n 0, 1), (7, .bipush 119, 2), (9, .if_icmp .eq 27, 3), (12, .iload_n 0, 1), (13, .bipush 101, 2), (15, .if_icmp .eq 21, 3), (18, .iload_n 0, 1), (19, .bipush 109, 2), (21, .if_icmp .eq 15, 3), (24, .iload_n 0, 1), (25, .bipush 115, 2), (27, .if_icmp .eq 9, 3), (30, .iload_n 0, 1), (31, .bipush 59, 2), (33, .if_icmp .ne 7, 3), (36, .iconst 1, 1), (37, .goto 4, 3), (40, .iconst 0, 1), (41, .ireturn, 1)]
def m_c34 : List (Nat × Instr × Nat) := [(0, .aload_n 0, 1), (1, .invokespecial 3, 3), (4, .aload_n 0, 1), (5, .bipush 24, 2), (7, .newarray .int, 2), (9, .putfield 9, 3), (12, .aload_n 0, 1), (13, .bipush 6, 2), (15, .newarray .int, 2), (17, .putfield 15, 3), (20, .aload_n 0, 1), (21, .bipush 6, 2), (23, .newarray .int, 2), (25, .putfield 18, 3), (28, .aload_n 0, 1), (29, .bipush 40, 2), (31, .newarray .int, 2), (33, .putfield 21, 3), (36, .aload_n 0, 1), (37, .invokevirtual 24, 3), (40, .return_, 1)]
def m_c35 : List (Nat × Instr × Nat) := [(0, .aload_n 0, 1), (1, .iconst 0, 1), (2, .putfield 27, 3), (5, .aload_n 0, 1), (6, .iconst 2, 1), (7, .putfield 31, 3), (10, .aload_n 0, 1), (11, .iconst 2, 1), (12, .putfield 34, 3), (15, .aload_n 0, 1), (16, .bipush (-9), 2), (18, .putfield 37, 3), (21, .aload_n 0, 1), (22, .bipush 9, 2), (24, .putfield 40, 3), (27, .aload_n 0, 1), (28, .iconst 4, 1), (29, .putfield 43, 3), (32, .aload_n 0, 1), (33, .iconst 1, 1), (34, .putfield 46, 3), (37, .return_, 1)]
def m_c36 : List (Nat × Instr × Nat) := [(0, .aload_n 0, 1), (1, .getfield 31, 3), (4, .aload_n 0, 1), (5, .getfield 34, 3), (8, .imul, 1), (9, .bipush 6, 2), (11, .invokestatic 49, 3), (14, .ireturn, 1)]
def m_c37 : List (Nat × Instr × Nat) := [(0, .iload_n 1, 1), (1, .ifCond .lt 18, 3), (4, .iload_n 1, 1), (5, .bipush 24, 2), (7, .if_icmp .ge 12, 3), (10, .iload_n 2, 1), (11, .ifCond .lt 8, 3), (14, .iload_n 2, 1), (15, .iconst 4, 1), (16, .if_icmp .lt 6, 3), (19, .bipush (-9), 2), (21, .ireturn, 1), (22, .iload_n 1, 1), (23, .iconst 4, 1), (24, .irem, 1), (25, .istore_n 3, 1), (26, .aload_n 0, 1), (27, .getfield 9, 3), (30, .iload_n 1, 1), (31, .iconst 4, 1), (32, .idiv, 1), (33, .iconst 4, 1), (34, .imul, 1), (35, .iload_n 2, 1), (36, .iconst 4, 1), (37, .iadd, 1), (38, .iload_n 3, 1), (39, .isub, 1), (40, .iconst 4, 1), (41, .irem, 1), (42, .iadd, 1), (43, .iaload, 1), (44, .ireturn, 1)]
def m_c38 : List (Nat × Instr × Nat) := [(0, .iload_n 1, 1), (1, .iload_n 1, 1), (2, .iconst 4, 1), (3, .irem, 1), (4, .isub, 1), (5, .istore_n 2, 1), (6, .iload_n 2, 1), (7, .iload_n 1, 1), (8, .if_icmp .ge 20, 3), (11, .aload_n 0, 1), (12, .iload_n 2, 1), (13, .iload_n 1, 1), (14, .invokevirtual 55, 3), (17, .ifCond .eq 5, 3), (20, .iconst 0, 1), (21, .ireturn, 1), (22, .iinc 2 1, 3), (25, .goto (-19), 3), (28, .iconst 1, 1), (29, .ireturn, 1)]
def m_c39 : List (Nat × Instr × Nat) := [(0, .iconst 0, 1), (1, .istore_n 3, 1), (2, .iload_n 3, 1), (3, .iconst 4, 1), (4, .if_icmp .ge 26, 3), (7, .aload_n 0, 1), (8, .iload_n 1, 1), (9, .iload_n 3, 1), (10, .invokevirtual 59, 3), (13, .aload_n 0, 1), (14, .iload_n 2, 1), (15, .iload_n 3, 1), (16, .invokevirtual 59, 3), (19, .if_icmp .eq 5, 3), (22, .iconst 0, 1), (23, .ireturn, 1), (24, .iinc 3 1, 3), (27, .goto (-25), 3), (30, .iconst 1, 1), (31, .ireturn, 1)]
def m_c40 : List (Nat × Instr × Nat) := [(0, .aload_n 0, 1), (1, .getfield 21, 3), (4, .iconst 0, 1), (5, .invokestatic 62, 3), (8, .iconst 0, 1), (9, .istore_n 1, 1), (10, .iload_n 1, 1), (11, .aload_n 0, 1), (12, .getfield 27, 3), (15, .iconst 4, 1), (16, .imul, 1), (17, .if_icmp .ge 52, 3), (20, .aload_n 0, 1), (21, .iload_n 1, 1), (22, .invokevirtual 68, 3), (25, .ifCond .eq 38, 3), (28, .iconst 0, 1), (29, .istore_n 2, 1), (30, .iload_n 2, 1), (31, .iconst 4, 1), (32, .if_icmp .ge 31, 3), (35, .aload_n 0, 1), (36, .getfield 21, 3), (39, .bipush 10, 2), (41, .iload_n 2, 1), (42, .imul, 1), (43, .aload_n 0, 1), (44, .iload_n 1, 1), (45, .iload_n 2, 1), (46, .invokevirtual 59, 3), (49, .iadd, 1), (50, .dup2, 1), (51, .iaload, 1), (52, .iconst 1, 1), (53, .iload_n 1, 1), (54, .ishl, 1), (55, .ior, 1), (56, .iastore, 1), (57, .iinc 2 1, 3), (60, .goto (-30), 3), (63, .iinc 1 1, 3), (66, .goto (-56), 3), (69, .return_, 1)]
def m_c41 : List (Nat × Instr × Nat) := [(0, .iload_n 1, 1), (1, .ifCond .lt 18, 3), (4, .iload_n 1, 1), (5, .iconst 4, 1), (6, .if_icmp .ge 13, 3), (9, .iload_n 2, 1), (10, .ifCond .lt 9, 3), (13, .iload_n 2, 1), (14, .bipush 10, 2), (16, .if_icmp .lt 5, 3), (19, .iconst 0, 1), (20, .ireturn, 1), (21, .aload_n 0, 1), (22, .getfield 21, 3), (25, .bipush 10, 2), (27, .iload_n 1, 1), (28, .imul, 1), (29, .iload_n 2, 1), (30, .iadd, 1), (31, .iaload, 1), (32, .ireturn, 1)]
def m_c42 : List (Nat × Instr × Nat) := [(0, .aload_n 0, 1), (1, .getfield 31, 3), (4, .iconst 1, 1), (5, .if_icmp .ge 6, 3), (8, .bipush (-9), 2), (10, .ireturn, 1), (11, .iload_n 1, 1), (12, .aload_n 0, 1), (13, .getfield 31, 3), (16, .irem, 1), (17, .istore_n 3, 1), (18, .iload_n 1, 1), (19, .aload_n 0, 1), (20, .getfield 31, 3), (23, .idiv, 1), (24, .istore 4, 2), (26, .iload_n 2, 1), (27, .tableswitch 84 0 2 #[25, 42, 61], 25), (52, .iload 4, 2), (54, .ifCond .le 12, 3), (57, .iload_n 1, 1), (58, .aload_n 0, 1), (59, .getfield 31, 3), (62, .isub, 1), (63, .goto 5, 3), (66, .bipush (-9), 2), (68, .ireturn, 1), (69, .iload_n 3, 1), (70, .aload_n 0, 1), (71, .getfield 31, 3), (74, .iconst 1, 1), (75, .isub, 1), (76, .if_icmp .ge 9, 3), (79, .iload_n 1, 1), (80, .iconst 1, 1), (81, .iadd, 1), (82, .goto 5, 3), (85, .bipush (-9), 2), (87, .ireturn, 1), (88, .iload 4, 2), (90, .aload_n 0, 1), (91, .getfield 34, 3), (94, .iconst 1, 1), (95, .isub, 1), (96, .if_icmp .ge 12, 3), (99, .iload_n 1, 1), (100, .aload_n 0, 1), (101, .getfield 31, 3), (104, .iadd, 1), (105, .goto 5, 3), (108, .bipush (-9), 2), (110, .ireturn, 1), (111, .iload_n 3, 1), (112, .ifCond .le 9, 3), (115, .iload_n 1, 1), (116, .iconst 1, 1), (117, .isub, 1), (118, .goto 5, 3), (121, .bipush (-9), 2), (123, .ireturn, 1)]
def m_c43 : List (Nat × Instr × Nat) := [(0, .iconst 0, 1), (1, .istore_n 2, 1), (2, .iload_n 2, 1), (3, .iload_n 1, 1), (4, .if_icmp .ge 26, 3), (7, .aload_n 0, 1), (8, .getfield 15, 3), (11, .iload_n 2, 1), (12, .iaload, 1), (13, .aload_n 0, 1), (14, .getfield 15, 3), (17, .iload_n 1, 1), (18, .iaload, 1), (19, .if_icmp .ne 5, 3), (22, .iconst 0, 1), (23, .ireturn, 1), (24, .iinc 2 1, 3), (27, .goto (-25), 3), (30, .iconst 1, 1), (31, .ireturn, 1)]
def m_c44 : List (Nat × Instr × Nat) := [(0, .iconst 0, 1), (1, .istore_n 1, 1), (2, .iconst 0, 1), (3, .istore_n 2, 1), (4, .iload_n 2, 1), (5, .aload_n 0, 1), (6, .getfield 27, 3), (9, .if_icmp .ge 20, 3), (12, .aload_n 0, 1), (13, .iload_n 2, 1), (14, .invokevirtual 72, 3), (17, .ifCond .eq 6, 3), (20, .iinc 1 1, 3), (23, .iinc 2 1, 3), (26, .goto (-22), 3), (29, .iload_n 1, 1), (30, .ireturn, 1)]
def m_c45 : List (Nat × Instr × Nat) := [(0, .iconst 0, 1), (1, .istore_n 2, 1), (2, .iconst 0, 1), (3, .istore_n 3, 1), (4, .iload_n 3, 1), (5, .aload_n 0, 1), (6, .getfield 27, 3), (9, .if_icmp .ge 32, 3), (12, .aload_n 0, 1), (13, .iload_n 3, 1), (14, .invokevirtual 72, 3), (17, .ifCond .eq 18, 3), (20, .iload_n 2, 1), (21, .iload_n 1, 1), (22, .if_icmp .ne 10, 3), (25, .aload_n 0, 1), (26, .getfield 15, 3), (29, .iload_n 3, 1), (30, .iaload, 1), (31, .ireturn, 1), (32, .iinc 2 1, 3), (35, .iinc 3 1, 3), (38, .goto (-34), 3), (41, .bipush (-9), 2), (43, .ireturn, 1)]
def m_c46 : List (Nat × Instr × Nat) := [(0, .iconst 0, 1), (1, .istore_n 2, 1), (2, .iconst 0, 1), (3, .istore_n 3, 1), (4, .iload_n 3, 1), (5, .aload_n 0, 1), (6, .getfield 27, 3), (9, .if_icmp .ge 22, 3), (12, .aload_n 0, 1), (13, .getfield 15, 3), (16, .iload_n 3, 1), (17, .iaload, 1), (18, .iload_n 1, 1), (19, .if_icmp .ne 6, 3), (22, .iinc 2 1, 3), (25, .iinc 3 1, 3), (28, .goto (-24), 3), (31, .iload_n 2, 1), (32, .ireturn, 1)]
def m_c47 : List (Nat × Instr × Nat) := [(0, .aload_n 0, 1), (1, .invokespecial 3, 3), (4, .aload_n 0, 1), (5, .bipush 6, 2), (7, .newarray .int, 2), (9, .putfield 9, 3), (12, .return_, 1)]
def m_c48 : List (Nat × Instr × Nat) := [(0, .aload_n 1, 1), (1, .aload_n 2, 1), (2, .invokestatic 15, 3), (5, .istore_n 3, 1), (6, .iconst 0, 1), (7, .istore 4, 2), (9, .iload 4, 2), (11, .bipush 6, 2), (13, .if_icmp .ge 59, 3), (16, .iload 4, 2), (18, .aload_n 1, 1), (19, .invokevirtual 19, 3), (22, .if_icmp .ge 16, 3), (25, .aload_n 2, 1), (26, .iload 4, 2), (28, .invokevirtual 25, 3), (31, .ifCond .eq 7, 3), (34, .iconst 1, 1), (35, .goto 4, 3), (38, .iconst 0, 1), (39, .istore 5, 2), (41, .aload_n 0, 1), (42, .getfield 9, 3), (45, .iload 4, 2), (47, .iload 5, 2), (49, .ifCond .eq 15, 3), (52, .iload_n 3, 1), (53, .aload_n 1, 1), (54, .aload_n 2, 1), (55, .iload 4, 2), (57, .invokestatic 31, 3), (60, .iand, 1), (61, .goto 4, 3), (64, .iconst 0, 1), (65, .iastore, 1), (66, .iinc 4 1, 3), (69, .goto (-60), 3), (72, .return_, 1)]
def m_c49 : List (Nat × Instr × Nat) := [(0, .iconst 1, 1), (1, .istore_n 3, 1), (2, .iconst 0, 1), (3, .istore 4, 2), (5, .iload_n 3, 1), (6, .ifCond .eq 95, 3), (9, .iload 4, 2), (11, .sipush 144, 3), (14, .if_icmp .gt 87, 3), (17, .iconst 0, 1), (18, .istore_n 3, 1), (19, .iconst 0, 1), (20, .istore 5, 2), (22, .iload 5, 2), (24, .aload_n 1, 1), (25, .invokevirtual 19, 3), (28, .if_icmp .ge 67, 3), (31, .aload_n 2, 1), (32, .iload 5, 2), (34, .invokevirtual 25, 3), (37, .ifCond .eq 52, 3), (40, .aload_n 0, 1), (41, .getfield 9, 3), (44, .iload 5, 2), (46, .iaload, 1), (47, .aload_n 0, 1), (48, .aload_n 1, 1), (49, .aload_n 2, 1), (50, .iload 5, 2), (52, .invokevirtual 35, 3), (55, .iand, 1), (56, .istore 6, 2), (58, .iload_n 3, 1), (59, .ifCond .ne 15, 3), (62, .iload 6, 2), (64, .aload_n 0, 1), (65, .getfield 9, 3), (68, .iload 5, 2), (70, .iaload, 1), (71, .if_icmp .eq 7, 3), (74, .iconst 1, 1), (75, .goto 4, 3), (78, .iconst 0, 1), (79, .istore_n 3, 1), (80, .aload_n 0, 1), (81, .getfield 9, 3), (84, .iload 5, 2), (86, .iload 6, 2), (88, .iastore, 1), (89, .iinc 5 1, 3), (92, .goto (-70), 3), (95, .iinc 4 1, 3), (98, .goto (-93), 3), (101, .return_, 1)]
def m_c50 : List (Nat × Instr × Nat) := [(0, .iconst 0, 1), (1, .istore_n 2, 1), (2, .iconst 0, 1), (3, .istore_n 3, 1), (4, .iload_n 3, 1), (5, .aload_n 0, 1), (6, .getfield 38, 3), (9, .if_icmp .ge 44, 3), (12, .aload_n 1, 1), (13, .iload_n 3, 1), (14, .invokevirtual 42, 3), (17, .ifCond .le 30, 3), (20, .aload_n 1, 1), (21, .aload_n 0, 1), (22, .aload_n 0, 1), (23, .getfield 46, 3), (26, .iload_n 3, 1), (27, .iaload, 1), (28, .invokevirtual 49, 3), (31, .aload_n 0, 1), (32, .getfield 53, 3), (35, .if_icmp .ge 12, 3), (38, .iload_n 2, 1), (39, .bipush 15, 2), (41, .iload_n 3, 1), (42, .iconst 4, 1), (43, .imul, 1), (44, .ishl, 1), (45, .ior, 1), (46, .istore_n 2, 1), (47, .iinc 3 1, 3), (50, .goto (-46), 3), (53, .iload_n 2, 1), (54, .ireturn, 1)]
def m_c51 : List (Nat × Instr × Nat) := [(0, .iconst 0, 1), (1, .istore_n 3, 1), (2, .iconst 0, 1), (3, .istore 4, 2), (5, .iload 4, 2), (7, .bipush 10, 2), (9, .if_icmp .ge 19, 3), (12, .iload_n 3, 1), (13, .aload_n 0, 1), (14, .iconst 0, 1), (15, .iload 4, 2), (17, .invokevirtual 56, 3), (20, .ior, 1), (21, .istore_n 3, 1), (22, .iinc 4 1, 3), (25, .goto (-20), 3), (28, .iconst 0, 1), (29, .istore 4, 2), (31, .iload 4, 2), (33, .iconst 4, 1), (34, .if_icmp .ge 93, 3), (37, .aload_n 0, 1), (38, .iload_n 2, 1), (39, .iload 4, 2), (41, .invokevirtual 60, 3), (44, .istore 5, 2), (46, .iload 5, 2), (48, .ifCond .lt 10, 3), (51, .iload 5, 2), (53, .bipush 6, 2), (55, .if_icmp .lt 32, 3), (58, .iload_n 3, 1), (59, .aload_n 0, 1), (60, .getfield 63, 3), (63, .bipush (-9), 2), (65, .if_icmp .ne 7, 3), (68, .iload_n 3, 1), (69, .goto 13, 3), (72, .aload_n 0, 1), (73, .iload 4, 2), (75, .aload_n 0, 1), (76, .getfield 63, 3), (79, .invokevirtual 56, 3), (82, .iand, 1), (83, .istore_n 3, 1), (84, .goto 37, 3), (87, .aload_n 1, 1), (88, .iload 5, 2), (90, .invokevirtual 25, 3), (93, .ifCond .ne 28, 3), (96, .iload_n 3, 1), (97, .aload_n 0, 1), (98, .iload 4, 2), (100, .aload_n 0, 1), (101, .aload_n 1, 1), (102, .getfield 66, 3), (105, .iload 5, 2), (107, .iaload, 1), (108, .iload 4, 2), (110, .invokestatic 69, 3), (113, .invokevirtual 72, 3), (116, .invokevirtual 56, 3), (119, .iand, 1), (120, .istore_n 3, 1), (121, .iinc 4 1, 3), (124, .goto (-93), 3), (127, .iload_n 3, 1), (128, .ireturn, 1)]
def m_c52 : List (Nat × Instr × Nat) := [(0, .aload_n 0, 1), (1, .getfield 9, 3), (4, .iload_n 3, 1), (5, .iaload, 1), (6, .istore 4, 2), (8, .iconst 0, 1), (9, .istore 5, 2), (11, .iload 5, 2), (13, .iconst 4, 1), (14, .if_icmp .ge 57, 3), (17, .aload_n 1, 1), (18, .iload_n 3, 1), (19, .iload 5, 2), (21, .invokevirtual 60, 3), (24, .istore 6, 2), (26, .iload 6, 2), (28, .ifCond .lt 37, 3), (31, .iload 6, 2), (33, .bipush 6, 2), (35, .if_icmp .ge 30, 3), (38, .aload_n 2, 1), (39, .iload 6, 2), (41, .invokevirtual 25, 3), (44, .ifCond .eq 21, 3), (47, .iload 4, 2), (49, .aload_n 1, 1), (50, .aload_n 0, 1), (51, .getfield 9, 3), (54, .iload 6, 2), (56, .iaload, 1), (57, .iload 5, 2), (59, .invokestatic 75, 3), (62, .iand, 1), (63, .istore 4, 2), (65, .iinc 5 1, 3), (68, .goto (-57), 3), (71, .iload 4, 2), (73, .ireturn, 1)]
def m_c53 : List (Nat × Instr × Nat) := [(0, .iconst 0, 1), (1, .istore_n 3, 1), (2, .iconst 0, 1), (3, .istore 4, 2), (5, .iload 4, 2), (7, .bipush 10, 2), (9, .if_icmp .ge 34, 3), (12, .iload_n 1, 1), (13, .aload_n 0, 1), (14, .iload_n 2, 1), (15, .invokestatic 69, 3), (18, .iload 4, 2), (20, .invokevirtual 56, 3), (23, .iand, 1), (24, .ifCond .eq 13, 3), (27, .iload_n 3, 1), (28, .aload_n 0, 1), (29, .iload_n 2, 1), (30, .iload 4, 2), (32, .invokevirtual 56, 3), (35, .ior, 1), (36, .istore_n 3, 1), (37, .iinc 4 1, 3), (40, .goto (-35), 3), (43, .iload_n 3, 1), (44, .ireturn, 1)]
def m_c54 : List (Nat × Instr × Nat) := [(0, .aload_n 0, 1), (1, .invokespecial 3, 3), (4, .aload_n 0, 1), (5, .bipush 120, 2), (7, .newarray .int, 2), (9, .putfield 9, 3), (12, .aload_n 0, 1), (13, .new 13, 3), (16, .dup, 1), (17, .invokespecial 15, 3), (20, .putfield 16, 3), (23, .aload_n 0, 1), (24, .new 20, 3), (27, .dup, 1), (28, .invokespecial 22, 3), (31, .putfield 23, 3), (34, .aload_n 0, 1), (35, .new 20, 3), (38, .dup, 1), (39, .invokespecial 22, 3), (42, .putfield 27, 3), (45, .aload_n 0, 1), (46, .new 30, 3), (49, .dup, 1), (50, .invokespecial 32, 3), (53, .putfield 33, 3), (56, .aload_n 0, 1), (57, .new 30, 3), (60, .dup, 1), (61, .invokespecial 32, 3), (64, .putfield 37, 3), (67, .aload_n 0, 1), (68, .bipush 10, 2), (70, .anewarray 30, 3), (73, .putfield 40, 3), (76, .aload_n 0, 1), (77, .iconst 2, 1), (78, .anewarray 30, 3), (81, .putfield 44, 3), (84, .aload_n 0, 1), (85, .iconst 2, 1), (86, .newarray .boolean, 2), (88, .putfield 47, 3), (91, .aload_n 0, 1), (92, .new 51, 3), (95, .dup, 1), (96, .invokespecial 53, 3), (99, .putfield 54, 3), (102, .aload_n 0, 1), (103, .new 58, 3), (106, .dup, 1), (107, .invokespecial 60, 3), (110, .putfield 61, 3), (113, .aload_n 0, 1), (114, .new 65, 3), (117, .dup, 1), (118, .invokespecial 67, 3), (121, .putfield 68, 3), (124, .aload_n 0, 1), (125, .bipush 6, 2), (127, .newarray .int, 2), (129, .putfield 72, 3), (132, .iconst 0, 1), (133, .istore_n 1, 1), (134, .iload_n 1, 1), (135, .bipush 10, 2), (137, .if_icmp .ge 22, 3), (140, .aload_n 0, 1), (141, .getfield 40, 3), (144, .iload_n 1, 1), (145, .new 30, 3), (148, .dup, 1), (149, .invokespecial 32, 3), (152, .aastore, 1), (153, .iinc 1 1, 3), (156, .goto (-22), 3), (159, .iconst 0, 1), (160, .istore_n 1, 1), (161, .iload_n 1, 1), (162, .iconst 2, 1), (163, .if_icmp .ge 22, 3), (166, .aload_n 0, 1), (167, .getfield 44, 3), (170, .iload_n 1, 1), (171, .new 30, 3), (174, .dup, 1), (175, .invokespecial 32, 3), (178, .aastore, 1), (179, .iinc 1 1, 3), (182, .goto (-21), 3), (185, .aload_n 0, 1), (186, .getfield 68, 3), (189, .aload_n 0, 1), (190, .getfield 23, 3), (193, .invokevirtual 75, 3), (196, .return_, 1)]
def m_c55 : List (Nat × Instr × Nat) := [(0, .iload_n 1, 1), (1, .ifCond .lt 10, 3), (4, .iload_n 1, 1), (5, .sipush 255, 3), (8, .if_icmp .le 5, 3), (11, .iconst (-1), 1), (12, .ireturn, 1), (13, .aload_n 0, 1), (14, .getfield 79, 3), (17, .bipush 120, 2), (19, .if_icmp .lt 6, 3), (22, .bipush (-3), 2), (24, .ireturn, 1), (25, .aload_n 0, 1), (26, .getfield 9, 3), (29, .aload_n 0, 1), (30, .getfield 79, 3), (33, .iload_n 1, 1), (34, .iastore, 1), (35, .aload_n 0, 1), (36, .dup, 1), (37, .getfield 79, 3), (40, .iconst 1, 1), (41, .iadd, 1), (42, .putfield 79, 3), (45, .aload_n 0, 1), (46, .getfield 79, 3), (49, .ireturn, 1)]
def m_c56 : List (Nat × Instr × Nat) := [(0, .aload_n 0, 1), (1, .getfield 79, 3), (4, .istore_n 1, 1), (5, .aload_n 0, 1), (6, .iconst 0, 1), (7, .putfield 79, 3), (10, .iload_n 1, 1), (11, .ireturn, 1)]
def m_c57 : List (Nat × Instr × Nat) := [(0, .aload_n 0, 1), (1, .getfield 16, 3), (4, .aload_n 0, 1), (5, .getfield 27, 3), (8, .aload_n 0, 1), (9, .getfield 9, 3), (12, .aload_n 0, 1), (13, .getfield 79, 3), (16, .invokevirtual 83, 3), (19, .istore_n 1, 1), (20, .iload_n 1, 1), (21, .ifCond .ge 5, 3), (24, .iload_n 1, 1), (25, .ireturn, 1), (26, .aload_n 0, 1), (27, .getfield 23, 3), (30, .astore_n 2, 1), (31, .aload_n 0, 1), (32, .aload_n 0, 1), (33, .getfield 27, 3), (36, .putfield 23, 3), (39, .aload_n 0, 1), (40, .aload_n 2, 1), (41, .putfield 27, 3), (44, .aload_n 0, 1), (45, .getfield 23, 3), (48, .invokevirtual 87, 3), (51, .aload_n 0, 1), (52, .getfield 33, 3), (55, .aload_n 0, 1), (56, .getfield 23, 3), (59, .invokevirtual 90, 3), (62, .aload_n 0, 1), (63, .iconst 0, 1), (64, .putfield 79, 3), (67, .aload_n 0, 1), (68, .iconst 0, 1), (69, .putfield 93, 3), (72, .aload_n 0, 1), (73, .invokevirtual 96, 3), (76, .aload_n 0, 1), (77, .getfield 68, 3), (80, .aload_n 0, 1), (81, .getfield 23, 3), (84, .invokevirtual 75, 3), (87, .iload_n 1, 1), (88, .ireturn, 1)]
def m_c58 : List (Nat × Instr × Nat) := [(0, .aload_n 0, 1), (1, .iload_n 1, 1), (2, .invokevirtual 99, 3), (5, .ifCond .eq 13, 3), (8, .iload_n 2, 1), (9, .ifCond .lt 9, 3), (12, .iload_n 2, 1), (13, .bipush 6, 2), (15, .if_icmp .le 5, 3), (18, .iconst (-1), 1), (19, .ireturn, 1), (20, .iload_n 2, 1), (21, .tableswitch 59 4 6 #[27, 37, 47], 27), (48, .aload_n 0, 1), (49, .getfield 23, 3), (52, .getfield 103, 3), (55, .iload_n 1, 1), (56, .iaload, 1), (57, .ireturn, 1), (58, .aload_n 0, 1), (59, .getfield 33, 3), (62, .getfield 106, 3), (65, .iload_n 1, 1), (66, .iaload, 1), (67, .ireturn, 1), (68, .aload_n 0, 1), (69, .getfield 33, 3), (72, .iload_n 1, 1), (73, .invokevirtual 109, 3), (76, .bipush 100, 2), (78, .iadd, 1), (79, .ireturn, 1), (80, .aload_n 0, 1), (81, .getfield 23, 3), (84, .iload_n 1, 1), (85, .iconst 4, 1), (86, .imul, 1), (87, .iload_n 2, 1), (88, .invokevirtual 113, 3), (91, .ireturn, 1)]
def m_c59 : List (Nat × Instr × Nat) := [(0, .aload_n 0, 1), (1, .iload_n 1, 1), (2, .invokevirtual 117, 3), (5, .ifCond .eq 12, 3), (8, .iload_n 2, 1), (9, .ifCond .lt 8, 3), (12, .iload_n 2, 1), (13, .iconst 4, 1), (14, .if_icmp .le 5, 3), (17, .iconst (-1), 1), (18, .ireturn, 1), (19, .iload_n 2, 1), (20, .iconst 4, 1), (21, .if_icmp .ne 20, 3), (24, .aload_n 0, 1), (25, .getfield 23, 3), (28, .iload_n 1, 1), (29, .invokevirtual 120, 3), (32, .ifCond .eq 7, 3), (35, .iconst 1, 1), (36, .goto 4, 3), (39, .iconst 0, 1), (40, .ireturn, 1), (41, .aload_n 0, 1), (42, .getfield 23, 3), (45, .iload_n 1, 1), (46, .iload_n 2, 1), (47, .invokevirtual 113, 3), (50, .ireturn, 1)]
def m_c60 : List (Nat × Instr × Nat) := [(0, .aload_n 0, 1), (1, .iload_n 1, 1), (2, .invokevirtual 123, 3), (5, .ifCond .eq 11, 3), (8, .aload_n 0, 1), (9, .iload_n 2, 1), (10, .invokevirtual 117, 3), (13, .ifCond .ne 5, 3), (16, .iconst (-1), 1), (17, .ireturn, 1), (18, .aload_n 0, 1), (19, .getfield 33, 3), (22, .iload_n 1, 1), (23, .invokevirtual 126, 3), (26, .ifCond .ne 6, 3), (29, .bipush (-2), 2), (31, .ireturn, 1), (32, .aload_n 0, 1), (33, .iload_n 1, 1), (34, .iload_n 2, 1), (35, .invokevirtual 129, 3), (38, .istore_n 3, 1), (39, .iload_n 3, 1), (40, .ifCond .eq 8, 3), (43, .bipush (-10), 2), (45, .iload_n 3, 1), (46, .isub, 1), (47, .ireturn, 1), (48, .aload_n 0, 1), (49, .invokevirtual 132, 3), (52, .aload_n 0, 1), (53, .getfield 33, 3), (56, .getfield 135, 3), (59, .iload_n 1, 1), (60, .iload_n 2, 1), (61, .iastore, 1), (62, .aload_n 0, 1), (63, .invokevirtual 138, 3), (66, .ireturn, 1)]
def m_c61 : List (Nat × Instr × Nat) := [(0, .aload_n 0, 1), (1, .iload_n 1, 1), (2, .invokevirtual 123, 3), (5, .ifCond .ne 5, 3), (8, .iconst (-1), 1), (9, .ireturn, 1), (10, .aload_n 0, 1), (11, .getfield 33, 3), (14, .iload_n 1, 1), (15, .invokevirtual 126, 3), (18, .ifCond .eq 6, 3), (21, .bipush (-2), 2), (23, .ireturn, 1), (24, .aload_n 0, 1), (25, .invokevirtual 132, 3), (28, .aload_n 0, 1), (29, .getfield 33, 3), (32, .getfield 135, 3), (35, .iload_n 1, 1), (36, .iaload, 1), (37, .istore_n 2, 1), (38, .aload_n 0, 1), (39, .getfield 33, 3), (42, .getfield 135, 3), (45, .iload_n 1, 1), (46, .bipush (-9), 2), (48, .iastore, 1), (49, .iload_n 2, 1), (50, .ireturn, 1)]
def m_c62 : List (Nat × Instr × Nat) := [(0, .aload_n 0, 1), (1, .iload_n 1, 1), (2, .invokevirtual 99, 3), (5, .ifCond .eq 13, 3), (8, .iload_n 2, 1), (9, .ifCond .lt 9, 3), (12, .iload_n 2, 1), (13, .bipush 9, 2), (15, .if_icmp .le 5, 3), (18, .iconst (-1), 1), (19, .ireturn, 1), (20, .aload_n 0, 1), (21, .getfield 33, 3), (24, .getfield 106, 3), (27, .iload_n 1, 1), (28, .iaload, 1), (29, .istore_n 3, 1), (30, .iload_n 3, 1), (31, .iload_n 2, 1), (32, .if_icmp .ne 6, 3), (35, .bipush (-2), 2), (37, .ireturn, 1), (38, .aload_n 0, 1), (39, .invokevirtual 132, 3), (42, .aload_n 0, 1), (43, .getfield 33, 3), (46, .getfield 106, 3), (49, .iload_n 1, 1), (50, .iload_n 2, 1), (51, .iastore, 1), (52, .iload_n 3, 1), (53, .ireturn, 1)]
def m_c63 : List (Nat × Instr × Nat) := [(0, .aload_n 0, 1), (1, .getfield 23, 3), (4, .invokevirtual 142, 3), (7, .aload_n 0, 1), (8, .invokevirtual 138, 3), (11, .isub, 1), (12, .istore_n 1, 1), (13, .aload_n 0, 1), (14, .invokevirtual 132, 3), (17, .aload_n 0, 1), (18, .getfield 33, 3), (21, .invokevirtual 145, 3), (24, .iload_n 1, 1), (25, .ireturn, 1)]
def m_c64 : List (Nat × Instr × Nat) := [(0, .aload_n 0, 1), (1, .getfield 93, 3), (4, .iconst 1, 1), (5, .if_icmp .ge 6, 3), (8, .bipush (-2), 2), (10, .ireturn, 1), (11, .aload_n 0, 1), (12, .aload_n 0, 1), (13, .getfield 148, 3), (16, .bipush 10, 2), (18, .iadd, 1), (19, .iconst 1, 1), (20, .isub, 1), (21, .bipush 10, 2), (23, .irem, 1), (24, .putfield 148, 3), (27, .aload_n 0, 1), (28, .dup, 1), (29, .getfield 93, 3), (32, .iconst 1, 1), (33, .isub, 1), (34, .putfield 93, 3), (37, .aload_n 0, 1), (38, .getfield 33, 3), (41, .aload_n 0, 1), (42, .getfield 40, 3), (45, .aload_n 0, 1), (46, .getfield 148, 3), (49, .aaload, 1), (50, .invokevirtual 151, 3), (53, .aload_n 0, 1), (54, .getfield 93, 3), (57, .ireturn, 1)]
def m_c65 : List (Nat × Instr × Nat) := [(0, .aload_n 0, 1), (1, .iload_n 1, 1), (2, .invokevirtual 123, 3), (5, .ifCond .ne 5, 3), (8, .iconst (-1), 1), (9, .ireturn, 1), (10, .aload_n 0, 1), (11, .getfield 33, 3), (14, .getfield 135, 3), (17, .iload_n 1, 1), (18, .iaload, 1), (19, .ireturn, 1)]
def m_c66 : List (Nat × Instr × Nat) := [(0, .aload_n 0, 1), (1, .iload_n 1, 1), (2, .invokevirtual 123, 3), (5, .ifCond .eq 11, 3), (8, .aload_n 0, 1), (9, .iload_n 2, 1), (10, .invokevirtual 117, 3), (13, .ifCond .ne 5, 3), (16, .iconst (-1), 1), (17, .ireturn, 1), (18, .aload_n 0, 1), (19, .getfield 33, 3), (22, .iload_n 1, 1), (23, .invokevirtual 126, 3), (26, .ifCond .ne 6, 3), (29, .bipush (-2), 2), (31, .ireturn, 1), (32, .aload_n 0, 1), (33, .iload_n 1, 1), (34, .iload_n 2, 1), (35, .invokevirtual 129, 3), (38, .ireturn, 1)]
def m_c67 : List (Nat × Instr × Nat) := [(0, .aload_n 0, 1), (1, .iload_n 1, 1), (2, .invokevirtual 123, 3), (5, .ifCond .eq 8, 3), (8, .iload_n 2, 1), (9, .iconst (-1), 1), (10, .if_icmp .ge 5, 3), (13, .iconst (-1), 1), (14, .ireturn, 1), (15, .aload_n 0, 1), (16, .getfield 33, 3), (19, .iload_n 1, 1), (20, .invokevirtual 126, 3), (23, .ifCond .ne 6, 3), (26, .bipush (-2), 2), (28, .ireturn, 1), (29, .aload_n 0, 1), (30, .getfield 54, 3), (33, .aload_n 0, 1), (34, .getfield 23, 3), (37, .aload_n 0, 1), (38, .getfield 33, 3), (41, .invokevirtual 155, 3), (44, .aload_n 0, 1), (45, .getfield 54, 3), (48, .aload_n 0, 1), (49, .getfield 23, 3), (52, .aload_n 0, 1), (53, .getfield 33, 3), (56, .invokevirtual 158, 3), (59, .aload_n 0, 1), (60, .getfield 54, 3), (63, .getfield 161, 3), (66, .iload_n 1, 1), (67, .iaload, 1), (68, .istore_n 3, 1), (69, .iload_n 2, 1), (70, .iconst (-1), 1), (71, .if_icmp .ne 10, 3), (74, .iload_n 3, 1), (75, .invokestatic 164, 3), (78, .goto 8, 3), (81, .iload_n 3, 1), (82, .iload_n 2, 1), (83, .invokestatic 169, 3), (86, .ireturn, 1)]
def m_c68 : List (Nat × Instr × Nat) := [(0, .iload_n 1, 1), (1, .ifCond .lt 12, 3), (4, .iload_n 2, 1), (5, .ifCond .lt 8, 3), (8, .iload_n 2, 1), (9, .iconst 2, 1), (10, .if_icmp .le 5, 3), (13, .iconst (-1), 1), (14, .ireturn, 1), (15, .aload_n 0, 1), (16, .getfield 23, 3), (19, .iload_n 1, 1), (20, .invokevirtual 172, 3), (23, .istore_n 3, 1), (24, .iload_n 3, 1), (25, .ifCond .lt 7, 3), (28, .iload_n 2, 1), (29, .ifCond .ne 5, 3), (32, .iload_n 3, 1), (33, .ireturn, 1), (34, .iload_n 2, 1), (35, .iconst 1, 1), (36, .if_icmp .ne 14, 3), (39, .aload_n 0, 1), (40, .getfield 23, 3), (43, .iload_n 3, 1), (44, .invokevirtual 175, 3), (47, .goto 15, 3), (50, .aload_n 0, 1), (51, .getfield 33, 3), (54, .aload_n 0, 1), (55, .getfield 23, 3), (58, .iload_n 3, 1), (59, .invokevirtual 178, 3), (62, .ireturn, 1)]
def m_c69 : List (Nat × Instr × Nat) := [(0, .iload_n 1, 1), (1, .iconst 1, 1), (2, .if_icmp .lt 10, 3), (5, .iload_n 1, 1), (6, .sipush 300, 3), (9, .if_icmp .le 5, 3), (12, .iconst (-1), 1), (13, .ireturn, 1), (14, .aload_n 0, 1), (15, .aload_n 0, 1), (16, .getfield 33, 3), (19, .iload_n 1, 1), (20, .invokevirtual 182, 3), (23, .ireturn, 1)]
def m_c70 : List (Nat × Instr × Nat) := [(0, .iload_n 1, 1), (1, .ifCond .lt 18, 3), (4, .iload_n 1, 1), (5, .sipush 300, 3), (8, .if_icmp .ge 11, 3), (11, .aload_n 0, 1), (12, .iload_n 2, 1), (13, .invokevirtual 123, 3), (16, .ifCond .ne 5, 3), (19, .iconst (-1), 1), (20, .ireturn, 1), (21, .aload_n 0, 1), (22, .aload_n 0, 1), (23, .getfield 33, 3), (26, .iload_n 1, 1), (27, .iconst 1, 1), (28, .iadd, 1), (29, .invokevirtual 182, 3), (32, .iload_n 1, 1), (33, .if_icmp .le 15, 3), (36, .aload_n 0, 1), (37, .getfield 61, 3), (40, .getfield 186, 3), (43, .iload_n 2, 1), (44, .iaload, 1), (45, .goto 5, 3), (48, .bipush (-9), 2), (50, .ireturn, 1)]
def m_c71 : List (Nat × Instr × Nat) := [(0, .aload_n 0, 1), (1, .aload_n 0, 1), (2, .getfield 33, 3), (5, .iconst 1, 1), (6, .invokevirtual 182, 3), (9, .iconst 1, 1), (10, .if_icmp .ge 5, 3), (13, .iconst 0, 1), (14, .ireturn, 1), (15, .aload_n 0, 1), (16, .getfield 61, 3), (19, .getfield 186, 3), (22, .iconst 0, 1), (23, .aload_n 0, 1), (24, .getfield 72, 3), (27, .iconst 0, 1), (28, .bipush 6, 2), (30, .invokestatic 189, 3), (33, .iconst 0, 1), (34, .istore_n 1, 1), (35, .iconst 0, 1), (36, .istore_n 2, 1), (37, .iload_n 2, 1), (38, .aload_n 0, 1), (39, .getfield 23, 3), (42, .invokevirtual 142, 3), (45, .if_icmp .ge 26, 3), (48, .aload_n 0, 1), (49, .getfield 33, 3), (52, .iload_n 2, 1), (53, .invokevirtual 126, 3), (56, .ifCond .eq 9, 3), (59, .iload_n 1, 1), (60, .iconst 1, 1), (61, .iload_n 2, 1), (62, .ishl, 1), (63, .ior, 1), (64, .istore_n 1, 1), (65, .iinc 2 1, 3), (68, .goto (-31), 3), (71, .iconst 0, 1), (72, .istore_n 2, 1), (73, .iload_n 2, 1), (74, .bipush 6, 2), (76, .if_icmp .ge 25, 3), (79, .iload_n 1, 1), (80, .iload_n 2, 1), (81, .ishr, 1), (82, .iconst 1, 1), (83, .iand, 1), (84, .iconst 1, 1), (85, .if_icmp .ne 10, 3), (88, .aload_n 0, 1), (89, .iload_n 2, 1), (90, .iload_n 1, 1), (91, .invokevirtual 195, 3), (94, .istore_n 1, 1), (95, .iinc 2 1, 3), (98, .goto (-25), 3), (101, .iload_n 1, 1), (102, .ireturn, 1)]
def m_c72 : List (Nat × Instr × Nat) := [(0, .aload_n 0, 1), (1, .getfield 54, 3), (4, .aload_n 0, 1), (5, .getfield 23, 3), (8, .aload_n 0, 1), (9, .getfield 33, 3), (12, .invokevirtual 155, 3), (15, .aload_n 0, 1), (16, .getfield 54, 3), (19, .aload_n 0, 1), (20, .getfield 23, 3), (23, .aload_n 0, 1), (24, .getfield 33, 3), (27, .invokevirtual 158, 3), (30, .bipush (-9), 2), (32, .istore_n 1, 1), (33, .bipush 25, 2), (35, .istore_n 2, 1), (36, .iconst 0, 1), (37, .istore_n 3, 1), (38, .iload_n 3, 1), (39, .aload_n 0, 1), (40, .getfield 23, 3), (43, .invokevirtual 142, 3), (46, .if_icmp .ge 45, 3), (49, .aload_n 0, 1), (50, .getfield 54, 3), (53, .getfield 161, 3), (56, .iload_n 3, 1), (57, .iaload, 1), (58, .invokestatic 164, 3), (61, .istore 4, 2), (63, .aload_n 0, 1), (64, .getfield 33, 3), (67, .iload_n 3, 1), (68, .invokevirtual 126, 3), (71, .ifCond .eq 14, 3), (74, .iload 4, 2), (76, .iload_n 2, 1), (77, .if_icmp .ge 8, 3), (80, .iload_n 3, 1), (81, .istore_n 1, 1), (82, .iload 4, 2), (84, .istore_n 2, 1), (85, .iinc 3 1, 3), (88, .goto (-50), 3), (91, .iload_n 1, 1), (92, .ireturn, 1)]
def m_c73 : List (Nat × Instr × Nat) := [(0, .aload_n 0, 1), (1, .iload_n 1, 1), (2, .invokevirtual 99, 3), (5, .ifCond .ne 5, 3), (8, .iconst (-1), 1), (9, .ireturn, 1), (10, .aload_n 0, 1), (11, .getfield 37, 3), (14, .aload_n 0, 1), (15, .getfield 33, 3), (18, .invokevirtual 151, 3), (21, .aload_n 0, 1), (22, .getfield 37, 3), (25, .getfield 106, 3), (28, .iload_n 1, 1), (29, .bipush 9, 2), (31, .iastore, 1), (32, .aload_n 0, 1), (33, .aload_n 0, 1), (34, .getfield 37, 3), (37, .iconst 1, 1), (38, .invokevirtual 182, 3), (41, .iconst 1, 1), (42, .if_icmp .ge 6, 3), (45, .bipush (-9), 2), (47, .ireturn, 1), (48, .iconst 0, 1), (49, .istore_n 2, 1), (50, .iload_n 2, 1), (51, .bipush 9, 2), (53, .if_icmp .ge 33, 3), (56, .aload_n 0, 1), (57, .getfield 37, 3), (60, .getfield 106, 3), (63, .iload_n 1, 1), (64, .iload_n 2, 1), (65, .iastore, 1), (66, .aload_n 0, 1), (67, .aload_n 0, 1), (68, .getfield 37, 3), (71, .iconst 1, 1), (72, .invokevirtual 182, 3), (75, .ifCond .le 5, 3), (78, .iload_n 2, 1), (79, .ireturn, 1), (80, .iinc 2 1, 3), (83, .goto (-33), 3), (86, .bipush 9, 2), (88, .ireturn, 1)]
def m_c74 : List (Nat × Instr × Nat) := [(0, .iload_n 1, 1), (1, .invokestatic 198, 3), (4, .ifCond .eq 12, 3), (7, .iload_n 2, 1), (8, .ifCond .lt 8, 3), (11, .iload_n 2, 1), (12, .iconst 1, 1), (13, .if_icmp .le 5, 3), (16, .iconst (-1), 1), (17, .ireturn, 1), (18, .iload_n 2, 1), (19, .ifCond .ne 15, 3), (22, .aload_n 0, 1), (23, .getfield 68, 3), (26, .getfield 201, 3), (29, .iload_n 1, 1), (30, .iaload, 1), (31, .goto 12, 3), (34, .aload_n 0, 1), (35, .getfield 68, 3), (38, .getfield 204, 3), (41, .iload_n 1, 1), (42, .iaload, 1), (43, .ireturn, 1)]
def m_c75 : List (Nat × Instr × Nat) := [(0, .iload_n 1, 1), (1, .iload_n 2, 1), (2, .invokestatic 207, 3), (5, .ifCond .ne 5, 3), (8, .iconst (-1), 1), (9, .ireturn, 1), (10, .aload_n 0, 1), (11, .getfield 68, 3), (14, .invokevirtual 211, 3), (17, .aload_n 0, 1), (18, .getfield 68, 3), (21, .getfield 214, 3), (24, .iload_n 1, 1), (25, .iload_n 2, 1), (26, .invokestatic 217, 3), (29, .iaload, 1), (30, .ireturn, 1)]
def m_c76 : List (Nat × Instr × Nat) := [(0, .iload_n 1, 1), (1, .iload_n 2, 1), (2, .invokestatic 207, 3), (5, .ifCond .ne 5, 3), (8, .iconst (-1), 1), (9, .ireturn, 1), (10, .aload_n 0, 1), (11, .getfield 68, 3), (14, .invokevirtual 211, 3), (17, .aload_n 0, 1), (18, .getfield 68, 3), (21, .getfield 220, 3), (24, .iload_n 1, 1), (25, .iload_n 2, 1), (26, .invokestatic 217, 3), (29, .iaload, 1), (30, .ireturn, 1)]
def m_c77 : List (Nat × Instr × Nat) := [(0, .iload_n 1, 1), (1, .iload_n 2, 1), (2, .invokestatic 207, 3), (5, .ifCond .eq 10, 3), (8, .iload_n 3, 1), (9, .invokestatic 198, 3), (12, .ifCond .ne 5, 3), (15, .iconst (-1), 1), (16, .ireturn, 1), (17, .aload_n 0, 1), (18, .getfield 68, 3), (21, .invokevirtual 211, 3), (24, .aload_n 0, 1), (25, .getfield 68, 3), (28, .getfield 223, 3), (31, .iload_n 3, 1), (32, .sipush 625, 3), (35, .imul, 1), (36, .iload_n 1, 1), (37, .iload_n 2, 1), (38, .invokestatic 217, 3), (41, .iadd, 1), (42, .iaload, 1), (43, .ireturn, 1)]
def m_c78 : List (Nat × Instr × Nat) := [(0, .iload_n 1, 1), (1, .invokestatic 226, 3), (4, .ifCond .ne 5, 3), (7, .iconst (-1), 1), (8, .ireturn, 1), (9, .aload_n 0, 1), (10, .getfield 44, 3), (13, .iload_n 1, 1), (14, .aaload, 1), (15, .aload_n 0, 1), (16, .getfield 33, 3), (19, .invokevirtual 151, 3), (22, .aload_n 0, 1), (23, .getfield 47, 3), (26, .iload_n 1, 1), (27, .iconst 1, 1), (28, .bastore, 1), (29, .aload_n 0, 1), (30, .invokevirtual 138, 3), (33, .ireturn, 1)]
def m_c79 : List (Nat × Instr × Nat) := [(0, .iload_n 1, 1), (1, .invokestatic 226, 3), (4, .ifCond .ne 5, 3), (7, .iconst (-1), 1), (8, .ireturn, 1), (9, .aload_n 0, 1), (10, .getfield 47, 3), (13, .iload_n 1, 1), (14, .baload, 1), (15, .ifCond .ne 6, 3), (18, .bipush (-2), 2), (20, .ireturn, 1), (21, .aload_n 0, 1), (22, .getfield 33, 3), (25, .aload_n 0, 1), (26, .getfield 44, 3), (29, .iload_n 1, 1), (30, .aaload, 1), (31, .invokevirtual 151, 3), (34, .aload_n 0, 1), (35, .iconst 0, 1), (36, .putfield 93, 3), (39, .aload_n 0, 1), (40, .invokevirtual 138, 3), (43, .ireturn, 1)]
def m_c80 : List (Nat × Instr × Nat) := [(0, .iload_n 1, 1), (1, .tableswitch 138 0 10 #[59, 67, 75, 83, 91, 99, 107, 115, 120, 125, 130], 59), (60, .aload_n 0, 1), (61, .getfield 23, 3), (64, .getfield 229, 3), (67, .ireturn, 1), (68, .aload_n 0, 1), (69, .getfield 23, 3), (72, .getfield 232, 3), (75, .ireturn, 1), (76, .aload_n 0, 1), (77, .getfield 23, 3), (80, .getfield 235, 3), (83, .ireturn, 1), (84, .aload_n 0, 1), (85, .getfield 23, 3), (88, .getfield 238, 3), (91, .ireturn, 1), (92, .aload_n 0, 1), (93, .getfield 23, 3), (96, .getfield 241, 3), (99, .ireturn, 1), (100, .aload_n 0, 1), (101, .getfield 23, 3), (104, .getfield 244, 3), (107, .ireturn, 1), (108, .aload_n 0, 1), (109, .getfield 23, 3), (112, .getfield 247, 3), (115, .ireturn, 1), (116, .aload_n 0, 1), (117, .invokevirtual 138, 3), (120, .ireturn, 1), (121, .aload_n 0, 1), (122, .getfield 79, 3), (125, .ireturn, 1), (126, .aload_n 0, 1), (127, .getfield 93, 3), (130, .ireturn, 1), (131, .aload_n 0, 1), (132, .getfield 23, 3), (135, .invokevirtual 250, 3), (138, .ireturn, 1), (139, .iconst (-1), 1), (140, .ireturn, 1)]
def m_c81 : List (Nat × Instr × Nat) := [(0, .iload_n 1, 1), (1, .ifCond .lt 18, 3), (4, .iload_n 1, 1), (5, .aload_n 0, 1), (6, .getfield 23, 3), (9, .getfield 229, 3), (12, .if_icmp .ge 7, 3), (15, .iconst 1, 1), (16, .goto 4, 3), (19, .iconst 0, 1), (20, .ireturn, 1)]
def m_c82 : List (Nat × Instr × Nat) := [(0, .iload_n 1, 1), (1, .ifCond .lt 20, 3), (4, .iload_n 1, 1), (5, .aload_n 0, 1), (6, .getfield 23, 3), (9, .getfield 229, 3), (12, .iconst 4, 1), (13, .imul, 1), (14, .if_icmp .ge 7, 3), (17, .iconst 1, 1), (18, .goto 4, 3), (21, .iconst 0, 1), (22, .ireturn, 1)]
def m_c83 : List (Nat × Instr × Nat) := [(0, .iload_n 1, 1), (1, .ifCond .lt 18, 3), (4, .iload_n 1, 1), (5, .aload_n 0, 1), (6, .getfield 23, 3), (9, .invokevirtual 142, 3), (12, .if_icmp .ge 7, 3), (15, .iconst 1, 1), (16, .goto 4, 3), (19, .iconst 0, 1), (20, .ireturn, 1)]
def m_c84 : List (Nat × Instr × Nat) := [(0, .iload_n 0, 1), (1, .ifCond .lt 12, 3), (4, .iload_n 0, 1), (5, .iconst 3, 1), (6, .if_icmp .ge 7, 3), (9, .iconst 1, 1), (10, .goto 4, 3), (13, .iconst 0, 1), (14, .ireturn, 1)]
def m_c85 : List (Nat × Instr × Nat) := [(0, .iload_n 0, 1), (1, .iconst 1, 1), (2, .if_icmp .lt 24, 3), (5, .iload_n 0, 1), (6, .bipush 24, 2), (8, .if_icmp .gt 18, 3), (11, .iload_n 1, 1), (12, .iconst 1, 1), (13, .if_icmp .lt 13, 3), (16, .iload_n 1, 1), (17, .bipush 24, 2), (19, .if_icmp .gt 7, 3), (22, .iconst 1, 1), (23, .goto 4, 3), (26, .iconst 0, 1), (27, .ireturn, 1)]
def m_c86 : List (Nat × Instr × Nat) := [(0, .iload_n 0, 1), (1, .ifCond .lt 12, 3), (4, .iload_n 0, 1), (5, .iconst 2, 1), (6, .if_icmp .ge 7, 3), (9, .iconst 1, 1), (10, .goto 4, 3), (13, .iconst 0, 1), (14, .ireturn, 1)]
def m_c87 : List (Nat × Instr × Nat) := [(0, .iconst 0, 1), (1, .istore_n 1, 1), (2, .iconst 0, 1), (3, .istore_n 2, 1), (4, .iload_n 2, 1), (5, .aload_n 0, 1), (6, .getfield 23, 3), (9, .invokevirtual 142, 3), (12, .if_icmp .ge 23, 3), (15, .aload_n 0, 1), (16, .getfield 33, 3), (19, .iload_n 2, 1), (20, .invokevirtual 126, 3), (23, .ifCond .eq 6, 3), (26, .iinc 1 1, 3), (29, .iinc 2 1, 3), (32, .goto (-28), 3), (35, .iload_n 1, 1), (36, .ireturn, 1)]
def m_c88 : List (Nat × Instr × Nat) := [(0, .iconst 0, 1), (1, .istore_n 1, 1), (2, .iload_n 1, 1), (3, .iconst 2, 1), (4, .if_icmp .ge 16, 3), (7, .aload_n 0, 1), (8, .getfield 47, 3), (11, .iload_n 1, 1), (12, .iconst 0, 1), (13, .bastore, 1), (14, .iinc 1 1, 3), (17, .goto (-15), 3), (20, .return_, 1)]
def m_c89 : List (Nat × Instr × Nat) := [(0, .aload_n 0, 1), (1, .getfield 40, 3), (4, .aload_n 0, 1), (5, .getfield 148, 3), (8, .aaload, 1), (9, .aload_n 0, 1), (10, .getfield 33, 3), (13, .invokevirtual 151, 3), (16, .aload_n 0, 1), (17, .aload_n 0, 1), (18, .getfield 148, 3), (21, .iconst 1, 1), (22, .iadd, 1), (23, .bipush 10, 2), (25, .irem, 1), (26, .putfield 148, 3), (29, .aload_n 0, 1), (30, .aload_n 0, 1), (31, .getfield 93, 3), (34, .iconst 1, 1), (35, .iadd, 1), (36, .bipush 10, 2), (38, .invokestatic 253, 3), (41, .putfield 93, 3), (44, .return_, 1)]
def m_c90 : List (Nat × Instr × Nat) := [(0, .iload_n 2, 1), (1, .iconst 4, 1), (2, .idiv, 1), (3, .istore_n 3, 1), (4, .aload_n 0, 1), (5, .getfield 33, 3), (8, .iload_n 3, 1), (9, .invokevirtual 109, 3), (12, .ifCond .gt 5, 3), (15, .iconst 1, 1), (16, .ireturn, 1), (17, .aload_n 0, 1), (18, .iload_n 1, 1), (19, .iload_n 2, 1), (20, .invokevirtual 258, 3), (23, .ifCond .ne 5, 3), (26, .iconst 2, 1), (27, .ireturn, 1), (28, .aload_n 0, 1), (29, .iload_n 1, 1), (30, .iload_n 2, 1), (31, .invokevirtual 261, 3), (34, .ifCond .ne 5, 3), (37, .iconst 3, 1), (38, .ireturn, 1), (39, .aload_n 0, 1), (40, .getfield 33, 3), (43, .aload_n 0, 1), (44, .getfield 23, 3), (47, .aload_n 0, 1), (48, .getfield 23, 3), (51, .getfield 103, 3), (54, .iload_n 3, 1), (55, .iaload, 1), (56, .invokevirtual 178, 3), (59, .aload_n 0, 1), (60, .getfield 23, 3), (63, .getfield 241, 3), (66, .if_icmp .lt 7, 3), (69, .iconst 4, 1), (70, .goto 4, 3), (73, .iconst 0, 1), (74, .ireturn, 1)]
def m_c91 : List (Nat × Instr × Nat) := [(0, .iconst 0, 1), (1, .istore_n 3, 1), (2, .iload_n 3, 1), (3, .iconst 4, 1), (4, .if_icmp .ge 79, 3), (7, .aload_n 0, 1), (8, .getfield 23, 3), (11, .iload_n 1, 1), (12, .iload_n 3, 1), (13, .invokevirtual 264, 3), (16, .istore 4, 2), (18, .iload 4, 2), (20, .ifCond .lt 57, 3), (23, .iload 4, 2), (25, .bipush 6, 2), (27, .if_icmp .ge 50, 3), (30, .aload_n 0, 1), (31, .getfield 33, 3), (34, .iload 4, 2), (36, .invokevirtual 126, 3), (39, .ifCond .ne 38, 3), (42, .aload_n 0, 1), (43, .getfield 23, 3), (46, .aload_n 0, 1), (47, .getfield 33, 3), (50, .getfield 135, 3), (53, .iload 4, 2), (55, .iaload, 1), (56, .iload_n 3, 1), (57, .invokestatic 267, 3), (60, .invokevirtual 113, 3), (63, .aload_n 0, 1), (64, .getfield 23, 3), (67, .iload_n 2, 1), (68, .iload_n 3, 1), (69, .invokevirtual 113, 3), (72, .if_icmp .eq 5, 3), (75, .iconst 0, 1), (76, .ireturn, 1), (77, .iinc 3 1, 3), (80, .goto (-78), 3), (83, .iconst 1, 1), (84, .ireturn, 1)]
def m_c92 : List (Nat × Instr × Nat) := [(0, .aload_n 0, 1), (1, .getfield 23, 3), (4, .getfield 238, 3), (7, .bipush (-9), 2), (9, .if_icmp .ne 5, 3), (12, .iconst 1, 1), (13, .ireturn, 1), (14, .iconst 0, 1), (15, .istore_n 3, 1), (16, .iload_n 3, 1), (17, .iconst 4, 1), (18, .if_icmp .ge 42, 3), (21, .aload_n 0, 1), (22, .getfield 23, 3), (25, .iload_n 1, 1), (26, .iload_n 3, 1), (27, .invokevirtual 264, 3), (30, .ifCond .ge 24, 3), (33, .aload_n 0, 1), (34, .getfield 23, 3), (37, .iload_n 2, 1), (38, .iload_n 3, 1), (39, .invokevirtual 113, 3), (42, .aload_n 0, 1), (43, .getfield 23, 3), (46, .getfield 238, 3), (49, .if_icmp .eq 5, 3), (52, .iconst 0, 1), (53, .ireturn, 1), (54, .iinc 3 1, 3), (57, .goto (-41), 3), (60, .iconst 1, 1), (61, .ireturn, 1)]
def m_c93 : List (Nat × Instr × Nat) := [(0, .aload_n 0, 1), (1, .getfield 54, 3), (4, .aload_n 0, 1), (5, .getfield 23, 3), (8, .aload_n 1, 1), (9, .invokevirtual 155, 3), (12, .aload_n 0, 1), (13, .getfield 54, 3), (16, .aload_n 0, 1), (17, .getfield 23, 3), (20, .aload_n 1, 1), (21, .invokevirtual 158, 3), (24, .aload_n 0, 1), (25, .getfield 61, 3), (28, .aload_n 0, 1), (29, .getfield 23, 3), (32, .aload_n 1, 1), (33, .aload_n 0, 1), (34, .getfield 54, 3), (37, .getfield 161, 3), (40, .iload_n 2, 1), (41, .invokevirtual 270, 3), (44, .ireturn, 1)]
def m_c94 : List (Nat × Instr × Nat) := [(0, .aload_n 0, 1), (1, .getfield 54, 3), (4, .aload_n 0, 1), (5, .getfield 23, 3), (8, .aload_n 0, 1), (9, .getfield 33, 3), (12, .invokevirtual 155, 3), (15, .aload_n 0, 1), (16, .getfield 54, 3), (19, .getfield 161, 3), (22, .iload_n 1, 1), (23, .dup2, 1), (24, .iaload, 1), (25, .iconst 1, 1), (26, .aload_n 0, 1), (27, .getfield 72, 3), (30, .iload_n 1, 1), (31, .iaload, 1), (32, .ishl, 1), (33, .iconst (-1), 1), (34, .ixor, 1), (35, .iand, 1), (36, .iastore, 1), (37, .aload_n 0, 1), (38, .getfield 54, 3), (41, .aload_n 0, 1), (42, .getfield 23, 3), (45, .aload_n 0, 1), (46, .getfield 33, 3), (49, .invokevirtual 158, 3), (52, .aload_n 0, 1), (53, .getfield 61, 3), (56, .aload_n 0, 1), (57, .getfield 23, 3), (60, .aload_n 0, 1), (61, .getfield 33, 3), (64, .aload_n 0, 1), (65, .getfield 54, 3), (68, .getfield 161, 3), (71, .iconst 1, 1), (72, .invokevirtual 270, 3), (75, .iconst 1, 1), (76, .if_icmp .ge 5, 3), (79, .iload_n 2, 1), (80, .ireturn, 1), (81, .iload_n 2, 1), (82, .istore_n 3, 1), (83, .iconst 0, 1), (84, .istore 4, 2), (86, .iload 4, 2), (88, .bipush 6, 2), (90, .if_icmp .ge 38, 3), (93, .aload_n 0, 1), (94, .getfield 61, 3), (97, .getfield 186, 3), (100, .iload 4, 2), (102, .iaload, 1), (103, .aload_n 0, 1), (104, .getfield 72, 3), (107, .iload 4, 2), (109, .iaload, 1), (110, .if_icmp .eq 12, 3), (113, .iload_n 3, 1), (114, .iconst 1, 1), (115, .iload 4, 2), (117, .ishl, 1), (118, .iconst (-1), 1), (119, .ixor, 1), (120, .iand, 1), (121, .istore_n 3, 1), (122, .iinc 4 1, 3), (125, .goto (-39), 3), (128, .iload_n 3, 1), (129, .ireturn, 1)]
def m_c95 : List (Nat × Instr × Nat) := [(0, .iconst 0, 1), (1, .istore_n 2, 1), (2, .iconst 0, 1), (3, .istore_n 3, 1), (4, .iload_n 3, 1), (5, .bipush 24, 2), (7, .if_icmp .ge 28, 3), (10, .iload_n 0, 1), (11, .iload_n 3, 1), (12, .ishr, 1), (13, .iconst 1, 1), (14, .iand, 1), (15, .iconst 1, 1), (16, .if_icmp .ne 13, 3), (19, .iload_n 2, 1), (20, .iload_n 1, 1), (21, .if_icmp .ne 5, 3), (24, .iload_n 3, 1), (25, .ireturn, 1), (26, .iinc 2 1, 3), (29, .iinc 3 1, 3), (32, .goto (-28), 3), (35, .bipush (-9), 2), (37, .ireturn, 1)]
def m_c96 : List (Nat × Instr × Nat) := [(0, .iload_n 0, 1), (1, .iconst 2, 1), (2, .iadd, 1), (3, .iconst 4, 1), (4, .irem, 1), (5, .ireturn, 1)]
def m_c97 : List (Nat × Instr × Nat) := [(0, .iload_n 0, 1), (1, .iload_n 1, 1), (2, .if_icmp .lt 12, 3), (5, .iload_n 0, 1), (6, .iload_n 2, 1), (7, .if_icmp .gt 7, 3), (10, .iconst 1, 1), (11, .goto 4, 3), (14, .iconst 0, 1), (15, .ireturn, 1)]
def m_c98 : List (Nat × Instr × Nat) := [(0, .aload_n 0, 1), (1, .invokespecial 1, 3), (4, .aload_n 0, 1), (5, .bipush 6, 2), (7, .newarray .int, 2), (9, .putfield 7, 3), (12, .aload_n 0, 1), (13, .bipush 30, 2), (15, .newarray .int, 2), (17, .putfield 13, 3), (20, .aload_n 0, 1), (21, .bipush 15, 2), (23, .newarray .int, 2), (25, .putfield 16, 3), (28, .aload_n 0, 1), (29, .sipush 150, 3), (32, .newarray .int, 2), (34, .putfield 19, 3), (37, .aload_n 0, 1), (38, .iconst 2, 1), (39, .newarray .boolean, 2), (41, .putfield 22, 3), (44, .aload_n 0, 1), (45, .bipush 30, 2), (47, .newarray .int, 2), (49, .putfield 26, 3), (52, .aload_n 0, 1), (53, .bipush 6, 2), (55, .newarray .int, 2), (57, .putfield 29, 3), (60, .aload_n 0, 1), (61, .bipush 30, 2), (63, .newarray .int, 2), (65, .putfield 32, 3), (68, .aload_n 0, 1), (69, .bipush 6, 2), (71, .newarray .int, 2), (73, .putfield 35, 3), (76, .aload_n 0, 1), (77, .bipush 120, 2), (79, .newarray .int, 2), (81, .putfield 38, 3), (84, .aload_n 0, 1), (85, .bipush 15, 2), (87, .newarray .int, 2), (89, .putfield 41, 3), (92, .aload_n 0, 1), (93, .bipush 9, 2), (95, .newarray .int, 2), (97, .putfield 44, 3), (100, .aload_n 0, 1), (101, .bipush 9, 2), (103, .newarray .int, 2), (105, .putfield 47, 3), (108, .aload_n 0, 1), (109, .bipush 9, 2), (111, .newarray .int, 2), (113, .putfield 50, 3), (116, .aload_n 0, 1), (117, .bipush 9, 2), (119, .newarray .int, 2), (121, .putfield 53, 3), (124, .aload_n 0, 1), (125, .sipush 625, 3), (128, .newarray .int, 2), (130, .putfield 56, 3), (133, .aload_n 0, 1), (134, .sipush 625, 3), (137, .newarray .int, 2), (139, .putfield 59, 3), (142, .aload_n 0, 1), (143, .sipush 1875, 3), (146, .newarray .int, 2), (148, .putfield 62, 3), (151, .aload_n 0, 1), (152, .invokevirtual 65, 3), (155, .aload_n 0, 1), (156, .invokevirtual 68, 3), (159, .return_, 1)]
def m_c99 : List (Nat × Instr × Nat) := [(0, .aload_n 0, 1), (1, .iconst 0, 1), (2, .putfield 71, 3), (5, .aload_n 0, 1), (6, .getfield 29, 3), (9, .iconst 0, 1), (10, .iconst 2, 1), (11, .iastore, 1), (12, .aload_n 0, 1), (13, .getfield 29, 3), (16, .iconst 1, 1), (17, .iconst 2, 1), (18, .iastore, 1), (19, .aload_n 0, 1), (20, .getfield 29, 3), (23, .iconst 2, 1), (24, .bipush (-9), 2), (26, .iastore, 1), (27, .aload_n 0, 1), (28, .getfield 29, 3), (31, .iconst 3, 1), (32, .bipush 9, 2), (34, .iastore, 1), (35, .aload_n 0, 1), (36, .getfield 29, 3), (39, .iconst 4, 1), (40, .iconst 4, 1), (41, .iastore, 1), (42, .aload_n 0, 1), (43, .getfield 29, 3), (46, .iconst 5, 1), (47, .iconst 1, 1), (48, .iastore, 1), (49, .return_, 1)]
def m_c100 : List (Nat × Instr × Nat) := [(0, .aload_n 0, 1), (1, .aload_n 0, 1), (2, .getfield 71, 3), (5, .putfield 75, 3), (8, .iconst 0, 1), (9, .istore_n 1, 1), (10, .iload_n 1, 1), (11, .bipush 6, 2), (13, .if_icmp .ge 21, 3), (16, .aload_n 0, 1), (17, .getfield 7, 3), (20, .iload_n 1, 1), (21, .aload_n 0, 1), (22, .getfield 29, 3), (25, .iload_n 1, 1), (26, .iaload, 1), (27, .iastore, 1), (28, .iinc 1 1, 3), (31, .goto (-21), 3), (34, .iconst 0, 1), (35, .istore_n 1, 1), (36, .iload_n 1, 1), (37, .bipush 30, 2), (39, .if_icmp .ge 21, 3), (42, .aload_n 0, 1), (43, .getfield 13, 3), (46, .iload_n 1, 1), (47, .aload_n 0, 1), (48, .getfield 32, 3), (51, .iload_n 1, 1), (52, .iaload, 1), (53, .iastore, 1), (54, .iinc 1 1, 3), (57, .goto (-21), 3), (60, .iconst 0, 1), (61, .istore_n 1, 1), (62, .iload_n 1, 1), (63, .bipush 9, 2), (65, .if_icmp .ge 17, 3), (68, .aload_n 0, 1), (69, .getfield 16, 3), (72, .iload_n 1, 1), (73, .bipush (-9), 2), (75, .iastore, 1), (76, .iinc 1 1, 3), (79, .goto (-17), 3), (82, .iconst 0, 1), (83, .istore_n 1, 1), (84, .iload_n 1, 1), (85, .bipush 6, 2), (87, .if_icmp .ge 36, 3), (90, .aload_n 0, 1), (91, .getfield 16, 3), (94, .bipush 9, 2), (96, .iload_n 1, 1), (97, .iadd, 1), (98, .iload_n 1, 1), (99, .aload_n 0, 1), (100, .getfield 75, 3), (103, .if_icmp .ge 12, 3), (106, .aload_n 0, 1), (107, .getfield 35, 3), (110, .iload_n 1, 1), (111, .iaload, 1), (112, .goto 4, 3), (115, .iconst 0, 1), (116, .iastore, 1), (117, .iinc 1 1, 3), (120, .goto (-36), 3), (123, .aload_n 0, 1), (124, .iconst 0, 1), (125, .putfield 78, 3), (128, .aload_n 0, 1), (129, .getfield 22, 3), (132, .iconst 0, 1), (133, .iconst 0, 1), (134, .bastore, 1), (135, .aload_n 0, 1), (136, .getfield 22, 3), (139, .iconst 1, 1), (140, .iconst 0, 1), (141, .bastore, 1), (142, .return_, 1)]
def m_c101 : List (Nat × Instr × Nat) := [(0, .iload_n 1, 1), (1, .iconst 0, 1), (2, .sipush 255, 3), (5, .invokestatic 81, 3), (8, .ifCond .ne 5, 3), (11, .iconst (-1), 1), (12, .ireturn, 1), (13, .aload_n 0, 1), (14, .getfield 85, 3), (17, .bipush 120, 2), (19, .if_icmp .ne 6, 3), (22, .bipush (-3), 2), (24, .ireturn, 1), (25, .aload_n 0, 1), (26, .getfield 38, 3), (29, .aload_n 0, 1), (30, .getfield 85, 3), (33, .iload_n 1, 1), (34, .iastore, 1), (35, .aload_n 0, 1), (36, .dup, 1), (37, .getfield 85, 3), (40, .iconst 1, 1), (41, .iadd, 1), (42, .putfield 85, 3), (45, .aload_n 0, 1), (46, .getfield 85, 3), (49, .ireturn, 1)]
def m_c102 : List (Nat × Instr × Nat) := [(0, .aload_n 0, 1), (1, .getfield 85, 3), (4, .istore_n 1, 1), (5, .aload_n 0, 1), (6, .iconst 0, 1), (7, .putfield 85, 3), (10, .iload_n 1, 1), (11, .ireturn, 1)]
def m_c103 : List (Nat × Instr × Nat) := [(0, .aload_n 0, 1), (1, .getfield 88, 3), (4, .aload_n 0, 1), (5, .getfield 85, 3), (8, .if_icmp .ge 30, 3), (11, .aload_n 0, 1), (12, .getfield 38, 3), (15, .aload_n 0, 1), (16, .getfield 88, 3), (19, .iaload, 1), (20, .bipush 32, 2), (22, .if_icmp .ne 16, 3), (25, .aload_n 0, 1), (26, .dup, 1), (27, .getfield 88, 3), (30, .iconst 1, 1), (31, .iadd, 1), (32, .putfield 88, 3), (35, .goto (-35), 3), (38, .aload_n 0, 1), (39, .getfield 88, 3), (42, .aload_n 0, 1), (43, .getfield 85, 3), (46, .if_icmp .ge 15, 3), (49, .aload_n 0, 1), (50, .getfield 38, 3), (53, .aload_n 0, 1), (54, .getfield 88, 3), (57, .iaload, 1), (58, .goto 4, 3), (61, .iconst (-1), 1), (62, .ireturn, 1)]
def m_c104 : List (Nat × Instr × Nat) := [(0, .aload_n 0, 1), (1, .invokevirtual 91, 3), (4, .istore_n 3, 1), (5, .aload_n 0, 1), (6, .getfield 88, 3), (9, .istore 4, 2), (11, .iconst 0, 1), (12, .istore 5, 2), (14, .iload 4, 2), (16, .aload_n 0, 1), (17, .getfield 85, 3), (20, .if_icmp .ge 56, 3), (23, .aload_n 0, 1), (24, .getfield 38, 3), (27, .iload 4, 2), (29, .iaload, 1), (30, .bipush 48, 2), (32, .bipush 57, 2), (34, .invokestatic 81, 3), (37, .ifCond .eq 39, 3), (40, .iload 5, 2), (42, .bipush 99, 2), (44, .if_icmp .le 8, 3), (47, .iload 5, 2), (49, .goto 19, 3), (52, .bipush 10, 2), (54, .iload 5, 2), (56, .imul, 1), (57, .aload_n 0, 1), (58, .getfield 38, 3), (61, .iload 4, 2), (63, .iaload, 1), (64, .iadd, 1), (65, .bipush 48, 2), (67, .isub, 1), (68, .istore 5, 2), (70, .iinc 4 1, 3), (73, .goto (-59), 3), (76, .iload 4, 2), (78, .aload_n 0, 1), (79, .getfield 88, 3), (82, .if_icmp .le 34, 3), (85, .iload_n 3, 1), (86, .bipush 48, 2), (88, .if_icmp .ne 14, 3), (91, .iload 4, 2), (93, .aload_n 0, 1), (94, .getfield 88, 3), (97, .iconst 1, 1), (98, .iadd, 1), (99, .if_icmp .ne 17, 3), (102, .iload 5, 2), (104, .iload_n 1, 1), (105, .iload_n 2, 1), (106, .invokestatic 81, 3), (109, .ifCond .eq 7, 3), (112, .iconst 1, 1), (113, .goto 4, 3), (116, .iconst 0, 1), (117, .istore 6, 2), (119, .aload_n 0, 1), (120, .iload 6, 2), (122, .ifCond .eq 8, 3), (125, .iload 4, 2), (127, .goto 7, 3), (130, .aload_n 0, 1), (131, .getfield 88, 3), (134, .putfield 88, 3), (137, .aload_n 0, 1), (138, .iload 5, 2), (140, .putfield 95, 3), (143, .iload 6, 2), (145, .ireturn, 1)]
def m_c105 : List (Nat × Instr × Nat) := [(0, .aload_n 0, 1), (1, .getfield 71, 3), (4, .bipush 6, 2), (6, .if_icmp .ne 5, 3), (9, .iconst 0, 1), (10, .ireturn, 1), (11, .aload_n 0, 1), (12, .dup, 1), (13, .getfield 88, 3), (16, .iconst 1, 1), (17, .iadd, 1), (18, .putfield 88, 3), (21, .iconst 0, 1), (22, .istore_n 1, 1), (23, .iload_n 1, 1), (24, .bipush 6, 2), (26, .if_icmp .ge 68, 3), (29, .aload_n 0, 1), (30, .iconst 0, 1), (31, .iload_n 1, 1), (32, .iconst 4, 1), (33, .if_icmp .ne 7, 3), (36, .iconst 5, 1), (37, .goto 5, 3), (40, .bipush 9, 2), (42, .invokevirtual 98, 3), (45, .ifCond .ne 5, 3), (48, .iconst 0, 1), (49, .ireturn, 1), (50, .iload_n 1, 1), (51, .iconst 5, 1), (52, .if_icmp .ge 23, 3), (55, .aload_n 0, 1), (56, .getfield 32, 3), (59, .iconst 5, 1), (60, .aload_n 0, 1), (61, .getfield 71, 3), (64, .imul, 1), (65, .iload_n 1, 1), (66, .iadd, 1), (67, .aload_n 0, 1), (68, .getfield 95, 3), (71, .iastore, 1), (72, .goto 16, 3), (75, .aload_n 0, 1), (76, .getfield 35, 3), (79, .aload_n 0, 1), (80, .getfield 71, 3), (83, .aload_n 0, 1), (84, .getfield 95, 3), (87, .iastore, 1), (88, .iinc 1 1, 3), (91, .goto (-68), 3), (94, .aload_n 0, 1), (95, .dup, 1), (96, .getfield 71, 3), (99, .iconst 1, 1), (100, .iadd, 1), (101, .putfield 71, 3), (104, .iconst 1, 1), (105, .ireturn, 1)]
def m_c106 : List (Nat × Instr × Nat) := [(0, .aload_n 0, 1), (1, .getfield 102, 3), (4, .iload_n 1, 1), (5, .iand, 1), (6, .ifCond .eq 5, 3), (9, .iconst 0, 1), (10, .ireturn, 1), (11, .aload_n 0, 1), (12, .dup, 1), (13, .getfield 102, 3), (16, .iload_n 1, 1), (17, .ior, 1), (18, .putfield 102, 3), (21, .aload_n 0, 1), (22, .dup, 1), (23, .getfield 88, 3), (26, .iconst 1, 1), (27, .iadd, 1), (28, .putfield 88, 3), (31, .aload_n 0, 1), (32, .iload_n 3, 1), (33, .iload 4, 2), (35, .invokevirtual 98, 3), (38, .ifCond .ne 5, 3), (41, .iconst 0, 1), (42, .ireturn, 1), (43, .aload_n 0, 1), (44, .getfield 29, 3), (47, .iload_n 2, 1), (48, .aload_n 0, 1), (49, .getfield 95, 3), (52, .iastore, 1), (53, .iload 5, 2), (55, .ifCond .ne 5, 3), (58, .iconst 1, 1), (59, .ireturn, 1), (60, .aload_n 0, 1), (61, .iconst 1, 1), (62, .iload 5, 2), (64, .invokevirtual 98, 3), (67, .istore 6, 2), (69, .aload_n 0, 1), (70, .getfield 29, 3), (73, .iload_n 2, 1), (74, .iconst 1, 1), (75, .iadd, 1), (76, .aload_n 0, 1), (77, .getfield 95, 3), (80, .iastore, 1), (81, .iload 6, 2), (83, .ireturn, 1)]
def m_c107 : List (Nat × Instr × Nat) := [(0, .aload_n 0, 1), (1, .invokevirtual 91, 3), (4, .lookupswitch 101 #[(101, 67), (107, 52), (109, 78), (115, 89), (119, 57)], 52), (56, .aload_n 0, 1), (57, .invokevirtual 105, 3), (60, .ireturn, 1), (61, .aload_n 0, 1), (62, .iconst 1, 1), (63, .iconst 0, 1), (64, .iconst 1, 1), (65, .iconst 3, 1), (66, .iconst 2, 1), (67, .invokevirtual 109, 3), (70, .ireturn, 1), (71, .aload_n 0, 1), (72, .iconst 2, 1), (73, .iconst 2, 1), (74, .iconst 0, 1), (75, .bipush 9, 2), (77, .iconst 0, 1), (78, .invokevirtual 109, 3), (81, .ireturn, 1), (82, .aload_n 0, 1), (83, .iconst 4, 1), (84, .iconst 3, 1), (85, .iconst 1, 1), (86, .bipush 9, 2), (88, .iconst 0, 1), (89, .invokevirtual 109, 3), (92, .ireturn, 1), (93, .aload_n 0, 1), (94, .bipush 8, 2), (96, .iconst 4, 1), (97, .iconst 1, 1), (98, .bipush 9, 2), (100, .iconst 4, 1), (101, .invokevirtual 109, 3), (104, .ireturn, 1), (105, .iconst 0, 1), (106, .ireturn, 1)]
def m_c108 : List (Nat × Instr × Nat) := [(0, .aload_n 0, 1), (1, .invokevirtual 65, 3), (4, .aload_n 0, 1), (5, .iconst 0, 1), (6, .putfield 102, 3), (9, .aload_n 0, 1), (10, .iconst 0, 1), (11, .putfield 88, 3), (14, .iconst 0, 1), (15, .istore_n 1, 1), (16, .aload_n 0, 1), (17, .invokevirtual 91, 3), (20, .iconst (-1), 1), (21, .if_icmp .eq 43, 3), (24, .aload_n 0, 1), (25, .invokevirtual 113, 3), (28, .ifCond .eq 12, 3), (31, .aload_n 0, 1), (32, .invokevirtual 91, 3), (35, .bipush 59, 2), (37, .if_icmp .eq 11, 3), (40, .bipush (-10), 2), (42, .aload_n 0, 1), (43, .getfield 88, 3), (46, .isub, 1), (47, .ireturn, 1), (48, .aload_n 0, 1), (49, .dup, 1), (50, .getfield 88, 3), (53, .iconst 1, 1), (54, .iadd, 1), (55, .putfield 88, 3), (58, .iinc 1 1, 3), (61, .goto (-45), 3), (64, .aload_n 0, 1), (65, .invokevirtual 68, 3), (68, .aload_n 0, 1), (69, .iconst 0, 1), (70, .putfield 85, 3), (73, .iload_n 1, 1), (74, .ireturn, 1)]
def m_c109 : List (Nat × Instr × Nat) := [(0, .iload_n 1, 1), (1, .iconst 0, 1), (2, .aload_n 0, 1), (3, .getfield 75, 3), (6, .iconst 1, 1), (7, .isub, 1), (8, .invokestatic 81, 3), (11, .ireturn, 1)]
def m_c110 : List (Nat × Instr × Nat) := [(0, .iload_n 1, 1), (1, .iconst 0, 1), (2, .iconst 4, 1), (3, .aload_n 0, 1), (4, .getfield 75, 3), (7, .imul, 1), (8, .iconst 1, 1), (9, .isub, 1), (10, .invokestatic 81, 3), (13, .ireturn, 1)]
def m_c111 : List (Nat × Instr × Nat) := [(0, .aload_n 0, 1), (1, .getfield 7, 3), (4, .iconst 0, 1), (5, .iaload, 1), (6, .aload_n 0, 1), (7, .getfield 7, 3), (10, .iconst 1, 1), (11, .iaload, 1), (12, .imul, 1), (13, .ireturn, 1)]
def m_c112 : List (Nat × Instr × Nat) := [(0, .iload_n 1, 1), (1, .iconst 0, 1), (2, .aload_n 0, 1), (3, .invokevirtual 116, 3), (6, .iconst 1, 1), (7, .isub, 1), (8, .invokestatic 81, 3), (11, .ireturn, 1)]
def m_c113 : List (Nat × Instr × Nat) := [(0, .aload_n 0, 1), (1, .getfield 13, 3), (4, .iconst 5, 1), (5, .iload_n 1, 1), (6, .iconst 4, 1), (7, .idiv, 1), (8, .imul, 1), (9, .iload_n 2, 1), (10, .iload_n 1, 1), (11, .iconst 4, 1), (12, .irem, 1), (13, .isub, 1), (14, .iconst 4, 1), (15, .iadd, 1), (16, .iconst 4, 1), (17, .irem, 1), (18, .iadd, 1), (19, .iaload, 1), (20, .ireturn, 1)]
def m_c114 : List (Nat × Instr × Nat) := [(0, .iload_n 1, 1), (1, .iload_n 1, 1), (2, .iconst 4, 1), (3, .irem, 1), (4, .isub, 1), (5, .istore_n 2, 1), (6, .iload_n 2, 1), (7, .iload_n 1, 1), (8, .if_icmp .ge 59, 3), (11, .iconst 1, 1), (12, .istore_n 3, 1), (13, .iconst 0, 1), (14, .istore 4, 2), (16, .iload 4, 2), (18, .iconst 4, 1), (19, .if_icmp .ge 36, 3), (22, .iload_n 3, 1), (23, .ifCond .eq 24, 3), (26, .aload_n 0, 1), (27, .iload_n 2, 1), (28, .iload 4, 2), (30, .invokevirtual 119, 3), (33, .aload_n 0, 1), (34, .iload_n 1, 1), (35, .iload 4, 2), (37, .invokevirtual 119, 3), (40, .if_icmp .ne 7, 3), (43, .iconst 1, 1), (44, .goto 4, 3), (47, .iconst 0, 1), (48, .istore_n 3, 1), (49, .iinc 4 1, 3), (52, .goto (-36), 3), (55, .iload_n 3, 1), (56, .ifCond .eq 5, 3), (59, .iconst 0, 1), (60, .ireturn, 1), (61, .iinc 2 1, 3), (64, .goto (-58), 3), (67, .iconst 1, 1), (68, .ireturn, 1)]
def m_c115 : List (Nat × Instr × Nat) := [(0, .aload_n 0, 1), (1, .getfield 13, 3), (4, .iconst 5, 1), (5, .iload_n 1, 1), (6, .imul, 1), (7, .iconst 4, 1), (8, .iadd, 1), (9, .iaload, 1), (10, .ireturn, 1)]
def m_c116 : List (Nat × Instr × Nat) := [(0, .iconst 0, 1), (1, .istore_n 1, 1), (2, .iload_n 1, 1), (3, .bipush 15, 2), (5, .if_icmp .ge 21, 3), (8, .aload_n 0, 1), (9, .getfield 41, 3), (12, .iload_n 1, 1), (13, .aload_n 0, 1), (14, .getfield 16, 3), (17, .iload_n 1, 1), (18, .iaload, 1), (19, .iastore, 1), (20, .iinc 1 1, 3), (23, .goto (-21), 3), (26, .return_, 1)]
def m_c117 : List (Nat × Instr × Nat) := [(0, .aload_n 0, 1), (1, .getfield 41, 3), (4, .bipush 9, 2), (6, .iload_n 1, 1), (7, .iadd, 1), (8, .iaload, 1), (9, .istore_n 2, 1), (10, .iconst 0, 1), (11, .istore_n 3, 1), (12, .iload_n 3, 1), (13, .bipush 9, 2), (15, .if_icmp .ge 40, 3), (18, .iload_n 2, 1), (19, .aload_n 0, 1), (20, .getfield 41, 3), (23, .iload_n 3, 1), (24, .iaload, 1), (25, .bipush (-9), 2), (27, .if_icmp .eq 19, 3), (30, .aload_n 0, 1), (31, .getfield 41, 3), (34, .iload_n 3, 1), (35, .iaload, 1), (36, .iconst 4, 1), (37, .idiv, 1), (38, .iload_n 1, 1), (39, .if_icmp .ne 7, 3), (42, .iconst 1, 1), (43, .goto 4, 3), (46, .iconst 0, 1), (47, .isub, 1), (48, .istore_n 2, 1), (49, .iinc 3 1, 3), (52, .goto (-40), 3), (55, .iload_n 2, 1), (56, .ireturn, 1)]
def m_c118 : List (Nat × Instr × Nat) := [(0, .iconst 0, 1), (1, .istore_n 2, 1), (2, .iconst 0, 1), (3, .istore_n 3, 1), (4, .iload_n 3, 1), (5, .bipush 9, 2), (7, .if_icmp .ge 44, 3), (10, .iload_n 2, 1), (11, .aload_n 0, 1), (12, .getfield 41, 3), (15, .iload_n 3, 1), (16, .iaload, 1), (17, .bipush (-9), 2), (19, .if_icmp .eq 23, 3), (22, .aload_n 0, 1), (23, .aload_n 0, 1), (24, .getfield 41, 3), (27, .iload_n 3, 1), (28, .iaload, 1), (29, .iconst 4, 1), (30, .idiv, 1), (31, .invokevirtual 123, 3), (34, .iload_n 1, 1), (35, .if_icmp .ne 7, 3), (38, .iconst 1, 1), (39, .goto 4, 3), (42, .iconst 0, 1), (43, .iadd, 1), (44, .istore_n 2, 1), (45, .iinc 3 1, 3), (48, .goto (-44), 3), (51, .iload_n 2, 1), (52, .ireturn, 1)]
def m_c119 : List (Nat × Instr × Nat) := [(0, .iload_n 1, 1), (1, .aload_n 0, 1), (2, .getfield 7, 3), (5, .iconst 0, 1), (6, .iaload, 1), (7, .irem, 1), (8, .iload_n 2, 1), (9, .iconst 1, 1), (10, .if_icmp .ne 7, 3), (13, .iconst 1, 1), (14, .goto 13, 3), (17, .iload_n 2, 1), (18, .iconst 3, 1), (19, .if_icmp .ne 7, 3), (22, .iconst (-1), 1), (23, .goto 4, 3), (26, .iconst 0, 1), (27, .iadd, 1), (28, .istore_n 3, 1), (29, .iload_n 1, 1), (30, .aload_n 0, 1), (31, .getfield 7, 3), (34, .iconst 0, 1), (35, .iaload, 1), (36, .idiv, 1), (37, .iload_n 2, 1), (38, .ifCond .ne 7, 3), (41, .iconst (-1), 1), (42, .goto 13, 3), (45, .iload_n 2, 1), (46, .iconst 2, 1), (47, .if_icmp .ne 7, 3), (50, .iconst 1, 1), (51, .goto 4, 3), (54, .iconst 0, 1), (55, .iadd, 1), (56, .istore 4, 2), (58, .iload_n 3, 1), (59, .iconst 0, 1), (60, .aload_n 0, 1), (61, .getfield 7, 3), (64, .iconst 0, 1), (65, .iaload, 1), (66, .iconst 1, 1), (67, .isub, 1), (68, .invokestatic 81, 3), (71, .ifCond .eq 34, 3), (74, .iload 4, 2), (76, .iconst 0, 1), (77, .aload_n 0, 1), (78, .getfield 7, 3), (81, .iconst 1, 1), (82, .iaload, 1), (83, .iconst 1, 1), (84, .isub, 1), (85, .invokestatic 81, 3), (88, .ifCond .eq 17, 3), (91, .aload_n 0, 1), (92, .getfield 7, 3), (95, .iconst 0, 1), (96, .iaload, 1), (97, .iload 4, 2), (99, .imul, 1), (100, .iload_n 3, 1), (101, .iadd, 1), (102, .goto 5, 3), (105, .bipush (-9), 2), (107, .ireturn, 1)]
def m_c120 : List (Nat × Instr × Nat) := [(0, .aload_n 0, 1), (1, .iload_n 2, 1), (2, .iconst 4, 1), (3, .idiv, 1), (4, .invokevirtual 127, 3), (7, .ifCond .gt 5, 3), (10, .iconst 1, 1), (11, .ireturn, 1), (12, .iconst 1, 1), (13, .istore_n 3, 1), (14, .iconst 0, 1), (15, .istore 4, 2), (17, .iload 4, 2), (19, .iconst 4, 1), (20, .if_icmp .ge 110, 3), (23, .aload_n 0, 1), (24, .iload_n 1, 1), (25, .iload 4, 2), (27, .invokevirtual 130, 3), (30, .istore 5, 2), (32, .iload 5, 2), (34, .bipush (-9), 2), (36, .if_icmp .eq 44, 3), (39, .aload_n 0, 1), (40, .getfield 41, 3), (43, .iload 5, 2), (45, .iaload, 1), (46, .bipush (-9), 2), (48, .if_icmp .eq 32, 3), (51, .aload_n 0, 1), (52, .aload_n 0, 1), (53, .getfield 41, 3), (56, .iload 5, 2), (58, .iaload, 1), (59, .iload 4, 2), (61, .iconst 2, 1), (62, .iadd, 1), (63, .iconst 4, 1), (64, .irem, 1), (65, .invokevirtual 119, 3), (68, .aload_n 0, 1), (69, .iload_n 2, 1), (70, .iload 4, 2), (72, .invokevirtual 119, 3), (75, .if_icmp .eq 5, 3), (78, .iconst 2, 1), (79, .ireturn, 1), (80, .iload_n 3, 1), (81, .ifCond .eq 41, 3), (84, .iload 5, 2), (86, .bipush (-9), 2), (88, .if_icmp .ne 30, 3), (91, .aload_n 0, 1), (92, .getfield 7, 3), (95, .iconst 2, 1), (96, .iaload, 1), (97, .bipush (-9), 2), (99, .if_icmp .eq 19, 3), (102, .aload_n 0, 1), (103, .iload_n 2, 1), (104, .iload 4, 2), (106, .invokevirtual 119, 3), (109, .aload_n 0, 1), (110, .getfield 7, 3), (113, .iconst 2, 1), (114, .iaload, 1), (115, .if_icmp .ne 7, 3), (118, .iconst 1, 1), (119, .goto 4, 3), (122, .iconst 0, 1), (123, .istore_n 3, 1), (124, .iinc 4 1, 3), (127, .goto (-110), 3), (130, .iload_n 3, 1), (131, .ifCond .ne 7, 3), (134, .iconst 3, 1), (135, .goto 28, 3), (138, .aload_n 0, 1), (139, .aload_n 0, 1), (140, .iload_n 2, 1), (141, .iconst 4, 1), (142, .idiv, 1), (143, .invokevirtual 123, 3), (146, .invokevirtual 133, 3), (149, .aload_n 0, 1), (150, .getfield 7, 3), (153, .iconst 3, 1), (154, .iaload, 1), (155, .if_icmp .lt 7, 3), (158, .iconst 4, 1), (159, .goto 4, 3), (162, .iconst 0, 1), (163, .ireturn, 1)]
def m_c121 : List (Nat × Instr × Nat) := [(0, .aload_n 0, 1), (1, .iload_n 1, 1), (2, .invokevirtual 136, 3), (5, .ifCond .eq 13, 3), (8, .iload_n 2, 1), (9, .iconst 0, 1), (10, .bipush 6, 2), (12, .invokestatic 81, 3), (15, .ifCond .ne 5, 3), (18, .iconst (-1), 1), (19, .ireturn, 1), (20, .aload_n 0, 1), (21, .invokevirtual 140, 3), (24, .iload_n 2, 1), (25, .iconst 5, 1), (26, .if_icmp .ge 16, 3), (29, .aload_n 0, 1), (30, .getfield 13, 3), (33, .iconst 5, 1), (34, .iload_n 1, 1), (35, .imul, 1), (36, .iload_n 2, 1), (37, .iadd, 1), (38, .iaload, 1), (39, .goto 28, 3), (42, .iload_n 2, 1), (43, .iconst 5, 1), (44, .if_icmp .ne 15, 3), (47, .aload_n 0, 1), (48, .getfield 16, 3), (51, .bipush 9, 2), (53, .iload_n 1, 1), (54, .iadd, 1), (55, .iaload, 1), (56, .goto 11, 3), (59, .aload_n 0, 1), (60, .iload_n 1, 1), (61, .invokevirtual 127, 3), (64, .bipush 100, 2), (66, .iadd, 1), (67, .ireturn, 1)]
def m_c122 : List (Nat × Instr × Nat) := [(0, .aload_n 0, 1), (1, .iload_n 1, 1), (2, .invokevirtual 143, 3), (5, .ifCond .eq 12, 3), (8, .iload_n 2, 1), (9, .iconst 0, 1), (10, .iconst 4, 1), (11, .invokestatic 81, 3), (14, .ifCond .ne 5, 3), (17, .iconst (-1), 1), (18, .ireturn, 1), (19, .iload_n 2, 1), (20, .iconst 4, 1), (21, .if_icmp .ge 12, 3), (24, .aload_n 0, 1), (25, .iload_n 1, 1), (26, .iload_n 2, 1), (27, .invokevirtual 119, 3), (30, .goto 16, 3), (33, .aload_n 0, 1), (34, .iload_n 1, 1), (35, .invokevirtual 146, 3), (38, .ifCond .eq 7, 3), (41, .iconst 1, 1), (42, .goto 4, 3), (45, .iconst 0, 1), (46, .ireturn, 1)]
def m_c123 : List (Nat × Instr × Nat) := [(0, .iconst 0, 1), (1, .istore_n 1, 1), (2, .iconst 0, 1), (3, .istore_n 2, 1), (4, .iload_n 2, 1), (5, .aload_n 0, 1), (6, .invokevirtual 116, 3), (9, .if_icmp .ge 28, 3), (12, .iload_n 1, 1), (13, .aload_n 0, 1), (14, .getfield 16, 3), (17, .iload_n 2, 1), (18, .iaload, 1), (19, .bipush (-9), 2), (21, .if_icmp .ne 7, 3), (24, .iconst 1, 1), (25, .goto 4, 3), (28, .iconst 0, 1), (29, .iadd, 1), (30, .istore_n 1, 1), (31, .iinc 2 1, 3), (34, .goto (-30), 3), (37, .iload_n 1, 1), (38, .ireturn, 1)]
def m_c124 : List (Nat × Instr × Nat) := [(0, .aload_n 0, 1), (1, .getfield 78, 3), (4, .bipush 10, 2), (6, .if_icmp .ne 43, 3), (9, .iconst 0, 1), (10, .istore_n 1, 1), (11, .iload_n 1, 1), (12, .sipush 135, 3), (15, .if_icmp .ge 24, 3), (18, .aload_n 0, 1), (19, .getfield 19, 3), (22, .iload_n 1, 1), (23, .aload_n 0, 1), (24, .getfield 19, 3), (27, .iload_n 1, 1), (28, .bipush 15, 2), (30, .iadd, 1), (31, .iaload, 1), (32, .iastore, 1), (33, .iinc 1 1, 3), (36, .goto (-25), 3), (39, .aload_n 0, 1), (40, .dup, 1), (41, .getfield 78, 3), (44, .iconst 1, 1), (45, .isub, 1), (46, .putfield 78, 3), (49, .iconst 0, 1), (50, .istore_n 1, 1), (51, .iload_n 1, 1), (52, .bipush 15, 2), (54, .if_icmp .ge 29, 3), (57, .aload_n 0, 1), (58, .getfield 19, 3), (61, .bipush 15, 2), (63, .aload_n 0, 1), (64, .getfield 78, 3), (67, .imul, 1), (68, .iload_n 1, 1), (69, .iadd, 1), (70, .aload_n 0, 1), (71, .getfield 16, 3), (74, .iload_n 1, 1), (75, .iaload, 1), (76, .iastore, 1), (77, .iinc 1 1, 3), (80, .goto (-29), 3), (83, .aload_n 0, 1), (84, .dup, 1), (85, .getfield 78, 3), (88, .iconst 1, 1), (89, .iadd, 1), (90, .putfield 78, 3), (93, .return_, 1)]
def m_c125 : List (Nat × Instr × Nat) := [(0, .aload_n 0, 1), (1, .iload_n 1, 1), (2, .invokevirtual 149, 3), (5, .ifCond .eq 11, 3), (8, .aload_n 0, 1), (9, .iload_n 2, 1), (10, .invokevirtual 143, 3), (13, .ifCond .ne 5, 3), (16, .iconst (-1), 1), (17, .ireturn, 1), (18, .aload_n 0, 1), (19, .getfield 16, 3), (22, .iload_n 1, 1), (23, .iaload, 1), (24, .bipush (-9), 2), (26, .if_icmp .eq 6, 3), (29, .bipush (-2), 2), (31, .ireturn, 1), (32, .aload_n 0, 1), (33, .invokevirtual 140, 3), (36, .aload_n 0, 1), (37, .iload_n 1, 1), (38, .iload_n 2, 1), (39, .invokevirtual 152, 3), (42, .istore_n 3, 1), (43, .iload_n 3, 1), (44, .ifCond .eq 8, 3), (47, .bipush (-10), 2), (49, .iload_n 3, 1), (50, .isub, 1), (51, .ireturn, 1), (52, .aload_n 0, 1), (53, .invokevirtual 155, 3), (56, .aload_n 0, 1), (57, .getfield 16, 3), (60, .iload_n 1, 1), (61, .iload_n 2, 1), (62, .iastore, 1), (63, .aload_n 0, 1), (64, .invokevirtual 158, 3), (67, .ireturn, 1)]
def m_c126 : List (Nat × Instr × Nat) := [(0, .aload_n 0, 1), (1, .iload_n 1, 1), (2, .invokevirtual 149, 3), (5, .ifCond .ne 5, 3), (8, .iconst (-1), 1), (9, .ireturn, 1), (10, .aload_n 0, 1), (11, .getfield 16, 3), (14, .iload_n 1, 1), (15, .iaload, 1), (16, .istore_n 2, 1), (17, .iload_n 2, 1), (18, .bipush (-9), 2), (20, .if_icmp .ne 6, 3), (23, .bipush (-2), 2), (25, .ireturn, 1), (26, .aload_n 0, 1), (27, .invokevirtual 155, 3), (30, .aload_n 0, 1), (31, .getfield 16, 3), (34, .iload_n 1, 1), (35, .bipush (-9), 2), (37, .iastore, 1), (38, .iload_n 2, 1), (39, .ireturn, 1)]
def m_c127 : List (Nat × Instr × Nat) := [(0, .aload_n 0, 1), (1, .iload_n 1, 1), (2, .invokevirtual 136, 3), (5, .ifCond .eq 13, 3), (8, .iload_n 2, 1), (9, .iconst 0, 1), (10, .bipush 9, 2), (12, .invokestatic 81, 3), (15, .ifCond .ne 5, 3), (18, .iconst (-1), 1), (19, .ireturn, 1), (20, .aload_n 0, 1), (21, .getfield 16, 3), (24, .bipush 9, 2), (26, .iload_n 1, 1), (27, .iadd, 1), (28, .iaload, 1), (29, .istore_n 3, 1), (30, .iload_n 3, 1), (31, .iload_n 2, 1), (32, .if_icmp .ne 6, 3), (35, .bipush (-2), 2), (37, .ireturn, 1), (38, .aload_n 0, 1), (39, .invokevirtual 155, 3), (42, .aload_n 0, 1), (43, .getfield 16, 3), (46, .bipush 9, 2), (48, .iload_n 1, 1), (49, .iadd, 1), (50, .iload_n 2, 1), (51, .iastore, 1), (52, .iload_n 3, 1), (53, .ireturn, 1)]
def m_c128 : List (Nat × Instr × Nat) := [(0, .aload_n 0, 1), (1, .invokevirtual 116, 3), (4, .aload_n 0, 1), (5, .invokevirtual 158, 3), (8, .isub, 1), (9, .istore_n 1, 1), (10, .aload_n 0, 1), (11, .invokevirtual 155, 3), (14, .iconst 0, 1), (15, .istore_n 2, 1), (16, .iload_n 2, 1), (17, .bipush 9, 2), (19, .if_icmp .ge 17, 3), (22, .aload_n 0, 1), (23, .getfield 16, 3), (26, .iload_n 2, 1), (27, .bipush (-9), 2), (29, .iastore, 1), (30, .iinc 2 1, 3), (33, .goto (-17), 3), (36, .iload_n 1, 1), (37, .ireturn, 1)]
def m_c129 : List (Nat × Instr × Nat) := [(0, .aload_n 0, 1), (1, .getfield 78, 3), (4, .ifCond .ne 6, 3), (7, .bipush (-2), 2), (9, .ireturn, 1), (10, .aload_n 0, 1), (11, .dup, 1), (12, .getfield 78, 3), (15, .iconst 1, 1), (16, .isub, 1), (17, .putfield 78, 3), (20, .iconst 0, 1), (21, .istore_n 1, 1), (22, .iload_n 1, 1), (23, .bipush 15, 2), (25, .if_icmp .ge 29, 3), (28, .aload_n 0, 1), (29, .getfield 16, 3), (32, .iload_n 1, 1), (33, .aload_n 0, 1), (34, .getfield 19, 3), (37, .bipush 15, 2), (39, .aload_n 0, 1), (40, .getfield 78, 3), (43, .imul, 1), (44, .iload_n 1, 1), (45, .iadd, 1), (46, .iaload, 1), (47, .iastore, 1), (48, .iinc 1 1, 3), (51, .goto (-29), 3), (54, .aload_n 0, 1), (55, .getfield 78, 3), (58, .ireturn, 1)]
def m_c130 : List (Nat × Instr × Nat) := [(0, .aload_n 0, 1), (1, .iload_n 1, 1), (2, .invokevirtual 149, 3), (5, .ifCond .eq 12, 3), (8, .aload_n 0, 1), (9, .getfield 16, 3), (12, .iload_n 1, 1), (13, .iaload, 1), (14, .goto 4, 3), (17, .iconst (-1), 1), (18, .ireturn, 1)]
def m_c131 : List (Nat × Instr × Nat) := [(0, .aload_n 0, 1), (1, .iload_n 1, 1), (2, .invokevirtual 149, 3), (5, .ifCond .eq 11, 3), (8, .aload_n 0, 1), (9, .iload_n 2, 1), (10, .invokevirtual 143, 3), (13, .ifCond .ne 5, 3), (16, .iconst (-1), 1), (17, .ireturn, 1), (18, .aload_n 0, 1), (19, .getfield 16, 3), (22, .iload_n 1, 1), (23, .iaload, 1), (24, .bipush (-9), 2), (26, .if_icmp .eq 6, 3), (29, .bipush (-2), 2), (31, .ireturn, 1), (32, .aload_n 0, 1), (33, .invokevirtual 140, 3), (36, .aload_n 0, 1), (37, .iload_n 1, 1), (38, .iload_n 2, 1), (39, .invokevirtual 152, 3), (42, .ireturn, 1)]
def m_c132 : List (Nat × Instr × Nat) := [(0, .iconst 0, 1), (1, .istore 4, 2), (3, .iconst 0, 1), (4, .istore 5, 2), (6, .iload 5, 2), (8, .iconst 4, 1), (9, .aload_n 0, 1), (10, .getfield 75, 3), (13, .imul, 1), (14, .if_icmp .ge 47, 3), (17, .iload 4, 2), (19, .ifCond .ne 29, 3), (22, .aload_n 0, 1), (23, .getfield 44, 3), (26, .iload_n 1, 1), (27, .iaload, 1), (28, .iload 5, 2), (30, .ishr, 1), (31, .iconst 1, 1), (32, .iand, 1), (33, .iconst 1, 1), (34, .if_icmp .ne 18, 3), (37, .aload_n 0, 1), (38, .iload 5, 2), (40, .iload_n 2, 1), (41, .invokevirtual 119, 3), (44, .iload_n 3, 1), (45, .if_icmp .ne 7, 3), (48, .iconst 1, 1), (49, .goto 4, 3), (52, .iconst 0, 1), (53, .istore 4, 2), (55, .iinc 5 1, 3), (58, .goto (-52), 3), (61, .iload 4, 2), (63, .ireturn, 1)]
def m_c133 : List (Nat × Instr × Nat) := [(0, .iconst 1, 1), (1, .istore_n 3, 1), (2, .iconst 0, 1), (3, .istore 4, 2), (5, .iload 4, 2), (7, .iconst 4, 1), (8, .if_icmp .ge 69, 3), (11, .aload_n 0, 1), (12, .iload_n 1, 1), (13, .iload 4, 2), (15, .invokevirtual 130, 3), (18, .istore 5, 2), (20, .iload_n 3, 1), (21, .ifCond .eq 48, 3), (24, .iload 5, 2), (26, .bipush (-9), 2), (28, .if_icmp .eq 37, 3), (31, .aload_n 0, 1), (32, .getfield 16, 3), (35, .iload 5, 2), (37, .iaload, 1), (38, .bipush (-9), 2), (40, .if_icmp .ne 25, 3), (43, .aload_n 0, 1), (44, .iload 5, 2), (46, .iload 4, 2), (48, .iconst 2, 1), (49, .iadd, 1), (50, .iconst 4, 1), (51, .irem, 1), (52, .aload_n 0, 1), (53, .iload_n 2, 1), (54, .iload 4, 2), (56, .invokevirtual 119, 3), (59, .invokevirtual 161, 3), (62, .ifCond .eq 7, 3), (65, .iconst 1, 1), (66, .goto 4, 3), (69, .iconst 0, 1), (70, .istore_n 3, 1), (71, .iinc 4 1, 3), (74, .goto (-69), 3), (77, .iload_n 3, 1), (78, .ireturn, 1)]
def m_c134 : List (Nat × Instr × Nat) := [(0, .aload_n 0, 1), (1, .invokevirtual 140, 3), (4, .iconst 0, 1), (5, .istore_n 1, 1), (6, .iload_n 1, 1), (7, .aload_n 0, 1), (8, .invokevirtual 116, 3), (11, .if_icmp .ge 78, 3), (14, .aload_n 0, 1), (15, .getfield 44, 3), (18, .iload_n 1, 1), (19, .iconst 0, 1), (20, .iastore, 1), (21, .iconst 0, 1), (22, .istore_n 2, 1), (23, .iload_n 2, 1), (24, .iconst 4, 1), (25, .aload_n 0, 1), (26, .getfield 75, 3), (29, .imul, 1), (30, .if_icmp .ge 53, 3), (33, .aload_n 0, 1), (34, .getfield 16, 3), (37, .iload_n 1, 1), (38, .iaload, 1), (39, .bipush (-9), 2), (41, .if_icmp .ne 42, 3), (44, .aload_n 0, 1), (45, .getfield 44, 3), (48, .iload_n 1, 1), (49, .dup2, 1), (50, .iaload, 1), (51, .aload_n 0, 1), (52, .iload_n 2, 1), (53, .invokevirtual 146, 3), (56, .ifCond .eq 18, 3), (59, .aload_n 0, 1), (60, .iload_n 1, 1), (61, .iload_n 2, 1), (62, .invokevirtual 152, 3), (65, .ifCond .ne 9, 3), (68, .iconst 1, 1), (69, .iload_n 2, 1), (70, .ishl, 1), (71, .goto 4, 3), (74, .iconst 0, 1), (75, .ior, 1), (76, .iastore, 1), (77, .iinc 2 1, 3), (80, .goto (-57), 3), (83, .iinc 1 1, 3), (86, .goto (-80), 3), (89, .iconst 1, 1), (90, .istore_n 1, 1), (91, .iload_n 1, 1), (92, .ifCond .eq 79, 3), (95, .iconst 0, 1), (96, .istore_n 1, 1), (97, .iconst 0, 1), (98, .istore_n 2, 1), (99, .iload_n 2, 1), (100, .aload_n 0, 1), (101, .invokevirtual 116, 3), (104, .if_icmp .ge 64, 3), (107, .iconst 0, 1), (108, .istore_n 3, 1), (109, .iload_n 3, 1), (110, .iconst 4, 1), (111, .aload_n 0, 1), (112, .getfield 75, 3), (115, .imul, 1), (116, .if_icmp .ge 46, 3), (119, .aload_n 0, 1), (120, .getfield 44, 3), (123, .iload_n 2, 1), (124, .iaload, 1), (125, .iload_n 3, 1), (126, .ishr, 1), (127, .iconst 1, 1), (128, .iand, 1), (129, .iconst 1, 1), (130, .if_icmp .ne 26, 3), (133, .aload_n 0, 1), (134, .iload_n 2, 1), (135, .iload_n 3, 1), (136, .invokevirtual 164, 3), (139, .ifCond .ne 17, 3), (142, .aload_n 0, 1), (143, .getfield 44, 3), (146, .iload_n 2, 1), (147, .dup2, 1), (148, .iaload, 1), (149, .iconst 1, 1), (150, .iload_n 3, 1), (151, .ishl, 1), (152, .ixor, 1), (153, .iastore, 1), (154, .iconst 1, 1), (155, .istore_n 1, 1), (156, .iinc 3 1, 3), (159, .goto (-50), 3), (162, .iinc 2 1, 3), (165, .goto (-66), 3), (168, .goto (-77), 3), (171, .return_, 1)]
def m_c135 : List (Nat × Instr × Nat) := [(0, .iconst 0, 1), (1, .istore_n 1, 1), (2, .iconst 0, 1), (3, .istore_n 2, 1), (4, .iload_n 2, 1), (5, .bipush 24, 2), (7, .if_icmp .ge 17, 3), (10, .iload_n 1, 1), (11, .iload_n 0, 1), (12, .iload_n 2, 1), (13, .ishr, 1), (14, .iconst 1, 1), (15, .iand, 1), (16, .iadd, 1), (17, .istore_n 1, 1), (18, .iinc 2 1, 3), (21, .goto (-17), 3), (24, .iload_n 1, 1), (25, .ireturn, 1)]
def m_c136 : List (Nat × Instr × Nat) := [(0, .aload_n 0, 1), (1, .iload_n 1, 1), (2, .invokevirtual 149, 3), (5, .ifCond .eq 8, 3), (8, .iload_n 2, 1), (9, .iconst (-1), 1), (10, .if_icmp .ge 5, 3), (13, .iconst (-1), 1), (14, .ireturn, 1), (15, .aload_n 0, 1), (16, .getfield 16, 3), (19, .iload_n 1, 1), (20, .iaload, 1), (21, .bipush (-9), 2), (23, .if_icmp .eq 6, 3), (26, .bipush (-2), 2), (28, .ireturn, 1), (29, .aload_n 0, 1), (30, .invokevirtual 167, 3), (33, .iload_n 2, 1), (34, .iconst (-1), 1), (35, .if_icmp .ne 13, 3), (38, .aload_n 0, 1), (39, .getfield 44, 3), (42, .iload_n 1, 1), (43, .iaload, 1), (44, .invokestatic 170, 3), (47, .ireturn, 1), (48, .iload_n 2, 1), (49, .istore_n 3, 1), (50, .iconst 0, 1), (51, .istore 4, 2), (53, .iload 4, 2), (55, .iconst 4, 1), (56, .aload_n 0, 1), (57, .getfield 75, 3), (60, .imul, 1), (61, .if_icmp .ge 34, 3), (64, .aload_n 0, 1), (65, .getfield 44, 3), (68, .iload_n 1, 1), (69, .iaload, 1), (70, .iload 4, 2), (72, .ishr, 1), (73, .iconst 1, 1), (74, .iand, 1), (75, .iconst 1, 1), (76, .if_icmp .ne 13, 3), (79, .iload_n 3, 1), (80, .ifCond .ne 6, 3), (83, .iload 4, 2), (85, .ireturn, 1), (86, .iinc 3 (-1), 3), (89, .iinc 4 1, 3), (92, .goto (-39), 3), (95, .bipush (-9), 2), (97, .ireturn, 1)]
def m_c137 : List (Nat × Instr × Nat) := [(0, .iload_n 1, 1), (1, .istore_n 2, 1), (2, .iconst 0, 1), (3, .istore_n 3, 1), (4, .iload_n 3, 1), (5, .aload_n 0, 1), (6, .getfield 75, 3), (9, .if_icmp .ge 81, 3), (12, .iconst 1, 1), (13, .istore 4, 2), (15, .iconst 0, 1), (16, .istore 5, 2), (18, .iload 5, 2), (20, .iload_n 3, 1), (21, .if_icmp .ge 35, 3), (24, .iload 4, 2), (26, .ifCond .eq 21, 3), (29, .aload_n 0, 1), (30, .iload 5, 2), (32, .invokevirtual 123, 3), (35, .aload_n 0, 1), (36, .iload_n 3, 1), (37, .invokevirtual 123, 3), (40, .if_icmp .eq 7, 3), (43, .iconst 1, 1), (44, .goto 4, 3), (47, .iconst 0, 1), (48, .istore 4, 2), (50, .iinc 5 1, 3), (53, .goto (-35), 3), (56, .iload 4, 2), (58, .ifCond .eq 13, 3), (61, .iload_n 2, 1), (62, .ifCond .ne 9, 3), (65, .aload_n 0, 1), (66, .iload_n 3, 1), (67, .invokevirtual 123, 3), (70, .ireturn, 1), (71, .iload_n 2, 1), (72, .iload 4, 2), (74, .ifCond .eq 7, 3), (77, .iconst 1, 1), (78, .goto 4, 3), (81, .iconst 0, 1), (82, .isub, 1), (83, .istore_n 2, 1), (84, .iinc 3 1, 3), (87, .goto (-83), 3), (90, .bipush (-9), 2), (92, .ireturn, 1)]
def m_c138 : List (Nat × Instr × Nat) := [(0, .iload_n 1, 1), (1, .ifCond .lt 12, 3), (4, .iload_n 2, 1), (5, .iconst 0, 1), (6, .iconst 2, 1), (7, .invokestatic 81, 3), (10, .ifCond .ne 5, 3), (13, .iconst (-1), 1), (14, .ireturn, 1), (15, .aload_n 0, 1), (16, .iload_n 1, 1), (17, .invokevirtual 173, 3), (20, .istore_n 3, 1), (21, .iload_n 3, 1), (22, .bipush (-9), 2), (24, .if_icmp .eq 7, 3), (27, .iload_n 2, 1), (28, .ifCond .ne 5, 3), (31, .iload_n 3, 1), (32, .ireturn, 1), (33, .aload_n 0, 1), (34, .invokevirtual 140, 3), (37, .iconst 0, 1), (38, .istore 4, 2), (40, .iconst 0, 1), (41, .istore 5, 2), (43, .iload 5, 2), (45, .aload_n 0, 1), (46, .getfield 75, 3), (49, .if_icmp .ge 29, 3), (52, .iload 4, 2), (54, .aload_n 0, 1), (55, .iload 5, 2), (57, .invokevirtual 123, 3), (60, .iload_n 3, 1), (61, .if_icmp .ne 7, 3), (64, .iconst 1, 1), (65, .goto 4, 3), (68, .iconst 0, 1), (69, .iadd, 1), (70, .istore 4, 2), (72, .iinc 5 1, 3), (75, .goto (-32), 3), (78, .iload_n 2, 1), (79, .iconst 1, 1), (80, .if_icmp .ne 8, 3), (83, .iload 4, 2), (85, .goto 8, 3), (88, .aload_n 0, 1), (89, .iload_n 3, 1), (90, .invokevirtual 133, 3), (93, .ireturn, 1)]
def m_c139 : List (Nat × Instr × Nat) := [(0, .aload_n 0, 1), (1, .iconst 0, 1), (2, .putfield 176, 3), (5, .iconst 0, 1), (6, .istore_n 1, 1), (7, .iload_n 1, 1), (8, .aload_n 0, 1), (9, .invokevirtual 116, 3), (12, .if_icmp .ge 40, 3), (15, .aload_n 0, 1), (16, .getfield 41, 3), (19, .iload_n 1, 1), (20, .iaload, 1), (21, .bipush (-9), 2), (23, .if_icmp .ne 23, 3), (26, .aload_n 0, 1), (27, .getfield 47, 3), (30, .aload_n 0, 1), (31, .getfield 176, 3), (34, .iload_n 1, 1), (35, .iastore, 1), (36, .aload_n 0, 1), (37, .dup, 1), (38, .getfield 176, 3), (41, .iconst 1, 1), (42, .iadd, 1), (43, .putfield 176, 3), (46, .iinc 1 1, 3), (49, .goto (-42), 3), (52, .aload_n 0, 1), (53, .iconst 0, 1), (54, .putfield 179, 3), (57, .aload_n 0, 1), (58, .getfield 50, 3), (61, .iconst 0, 1), (62, .iconst (-1), 1), (63, .iastore, 1), (64, .aload_n 0, 1), (65, .iconst 0, 1), (66, .putfield 182, 3), (69, .aload_n 0, 1), (70, .bipush (-9), 2), (72, .putfield 186, 3), (75, .aload_n 0, 1), (76, .bipush (-9), 2), (78, .putfield 189, 3), (81, .return_, 1)]
def m_c140 : List (Nat × Instr × Nat) := [(0, .aload_n 0, 1), (1, .iload_n 2, 1), (2, .invokevirtual 146, 3), (5, .ifCond .eq 32, 3), (8, .iload_n 1, 1), (9, .aload_n 0, 1), (10, .getfield 186, 3), (13, .if_icmp .ne 11, 3), (16, .iload_n 2, 1), (17, .aload_n 0, 1), (18, .getfield 189, 3), (21, .if_icmp .eq 16, 3), (24, .aload_n 0, 1), (25, .iload_n 1, 1), (26, .iload_n 2, 1), (27, .invokevirtual 152, 3), (30, .ifCond .ne 7, 3), (33, .iconst 1, 1), (34, .goto 4, 3), (37, .iconst 0, 1), (38, .ireturn, 1)]
def m_c141 : List (Nat × Instr × Nat) := [(0, .aload_n 0, 1), (1, .dup, 1), (2, .getfield 179, 3), (5, .aload_n 0, 1), (6, .getfield 182, 3), (9, .ifCond .eq 7, 3), (12, .iconst 1, 1), (13, .goto 4, 3), (16, .iconst 0, 1), (17, .isub, 1), (18, .putfield 179, 3), (21, .aload_n 0, 1), (22, .iconst 0, 1), (23, .putfield 182, 3), (26, .aload_n 0, 1), (27, .getfield 179, 3), (30, .ifCond .lt 158, 3), (33, .aload_n 0, 1), (34, .getfield 182, 3), (37, .ifCond .ne 151, 3), (40, .aload_n 0, 1), (41, .getfield 179, 3), (44, .aload_n 0, 1), (45, .getfield 176, 3), (48, .if_icmp .ne 11, 3), (51, .aload_n 0, 1), (52, .iconst 1, 1), (53, .putfield 182, 3), (56, .goto (-30), 3), (59, .aload_n 0, 1), (60, .getfield 47, 3), (63, .aload_n 0, 1), (64, .getfield 179, 3), (67, .iaload, 1), (68, .istore_n 1, 1), (69, .aload_n 0, 1), (70, .getfield 41, 3), (73, .iload_n 1, 1), (74, .bipush (-9), 2), (76, .iastore, 1), (77, .aload_n 0, 1), (78, .getfield 50, 3), (81, .aload_n 0, 1), (82, .getfield 179, 3), (85, .iaload, 1), (86, .iconst 1, 1), (87, .iadd, 1), (88, .istore_n 2, 1), (89, .iload_n 2, 1), (90, .iconst 4, 1), (91, .aload_n 0, 1), (92, .getfield 75, 3), (95, .imul, 1), (96, .if_icmp .ge 18, 3), (99, .aload_n 0, 1), (100, .iload_n 1, 1), (101, .iload_n 2, 1), (102, .invokevirtual 192, 3), (105, .ifCond .ne 9, 3), (108, .iinc 2 1, 3), (111, .goto (-22), 3), (114, .iload_n 2, 1), (115, .iconst 4, 1), (116, .aload_n 0, 1), (117, .getfield 75, 3), (120, .imul, 1), (121, .if_icmp .ne 16, 3), (124, .aload_n 0, 1), (125, .dup, 1), (126, .getfield 179, 3), (129, .iconst 1, 1), (130, .isub, 1), (131, .putfield 179, 3), (134, .goto 51, 3), (137, .aload_n 0, 1), (138, .getfield 50, 3), (141, .aload_n 0, 1), (142, .getfield 179, 3), (145, .iload_n 2, 1), (146, .iastore, 1), (147, .aload_n 0, 1), (148, .getfield 41, 3), (151, .iload_n 1, 1), (152, .iload_n 2, 1), (153, .iastore, 1), (154, .aload_n 0, 1), (155, .dup, 1), (156, .getfield 179, 3), (159, .iconst 1, 1), (160, .iadd, 1), (161, .putfield 179, 3), (164, .aload_n 0, 1), (165, .getfield 179, 3), (168, .aload_n 0, 1), (169, .getfield 176, 3), (172, .if_icmp .ge 13, 3), (175, .aload_n 0, 1), (176, .getfield 50, 3), (179, .aload_n 0, 1), (180, .getfield 179, 3), (183, .iconst (-1), 1), (184, .iastore, 1), (185, .goto (-159), 3), (188, .aload_n 0, 1), (189, .getfield 182, 3), (192, .ireturn, 1)]
def m_c142 : List (Nat × Instr × Nat) := [(0, .iload_n 1, 1), (1, .iconst 1, 1), (2, .sipush 300, 3), (5, .invokestatic 81, 3), (8, .ifCond .ne 5, 3), (11, .iconst (-1), 1), (12, .ireturn, 1), (13, .aload_n 0, 1), (14, .invokevirtual 140, 3), (17, .aload_n 0, 1), (18, .invokevirtual 195, 3), (21, .iconst 0, 1), (22, .istore_n 2, 1), (23, .iload_n 2, 1), (24, .iload_n 1, 1), (25, .if_icmp .ge 16, 3), (28, .aload_n 0, 1), (29, .invokevirtual 198, 3), (32, .ifCond .eq 9, 3), (35, .iinc 2 1, 3), (38, .goto (-15), 3), (41, .iload_n 2, 1), (42, .ireturn, 1)]
def m_c143 : List (Nat × Instr × Nat) := [(0, .iload_n 1, 1), (1, .iconst 0, 1), (2, .sipush 299, 3), (5, .invokestatic 81, 3), (8, .ifCond .eq 11, 3), (11, .aload_n 0, 1), (12, .iload_n 2, 1), (13, .invokevirtual 149, 3), (16, .ifCond .ne 5, 3), (19, .iconst (-1), 1), (20, .ireturn, 1), (21, .aload_n 0, 1), (22, .invokevirtual 140, 3), (25, .aload_n 0, 1), (26, .invokevirtual 195, 3), (29, .iconst 0, 1), (30, .istore_n 3, 1), (31, .iload_n 3, 1), (32, .iload_n 1, 1), (33, .if_icmp .gt 19, 3), (36, .aload_n 0, 1), (37, .invokevirtual 198, 3), (40, .ifCond .ne 6, 3), (43, .bipush (-9), 2), (45, .ireturn, 1), (46, .iinc 3 1, 3), (49, .goto (-18), 3), (52, .aload_n 0, 1), (53, .getfield 41, 3), (56, .iload_n 2, 1), (57, .iaload, 1), (58, .ireturn, 1)]
def m_c144 : List (Nat × Instr × Nat) := [(0, .aload_n 0, 1), (1, .invokevirtual 140, 3), (4, .aload_n 0, 1), (5, .invokevirtual 195, 3), (8, .aload_n 0, 1), (9, .invokevirtual 198, 3), (12, .ifCond .ne 5, 3), (15, .iconst 0, 1), (16, .ireturn, 1), (17, .iconst 0, 1), (18, .istore_n 1, 1), (19, .iload_n 1, 1), (20, .aload_n 0, 1), (21, .invokevirtual 116, 3), (24, .if_icmp .ge 21, 3), (27, .aload_n 0, 1), (28, .getfield 53, 3), (31, .iload_n 1, 1), (32, .aload_n 0, 1), (33, .getfield 41, 3), (36, .iload_n 1, 1), (37, .iaload, 1), (38, .iastore, 1), (39, .iinc 1 1, 3), (42, .goto (-23), 3), (45, .iconst 0, 1), (46, .istore_n 1, 1), (47, .iconst 0, 1), (48, .istore_n 2, 1), (49, .iload_n 2, 1), (50, .aload_n 0, 1), (51, .invokevirtual 116, 3), (54, .if_icmp .ge 60, 3), (57, .aload_n 0, 1), (58, .getfield 16, 3), (61, .iload_n 2, 1), (62, .iaload, 1), (63, .bipush (-9), 2), (65, .if_icmp .ne 43, 3), (68, .aload_n 0, 1), (69, .invokevirtual 140, 3), (72, .aload_n 0, 1), (73, .invokevirtual 195, 3), (76, .aload_n 0, 1), (77, .iload_n 2, 1), (78, .putfield 186, 3), (81, .aload_n 0, 1), (82, .aload_n 0, 1), (83, .getfield 53, 3), (86, .iload_n 2, 1), (87, .iaload, 1), (88, .putfield 189, 3), (91, .iload_n 1, 1), (92, .aload_n 0, 1), (93, .invokevirtual 198, 3), (96, .ifCond .eq 7, 3), (99, .iconst 0, 1), (100, .goto 6, 3), (103, .iconst 1, 1), (104, .iload_n 2, 1), (105, .ishl, 1), (106, .ior, 1), (107, .istore_n 1, 1), (108, .iinc 2 1, 3), (111, .goto (-62), 3), (114, .iload_n 1, 1), (115, .ireturn, 1)]
def m_c145 : List (Nat × Instr × Nat) := [(0, .aload_n 0, 1), (1, .invokevirtual 167, 3), (4, .bipush (-9), 2), (6, .istore_n 1, 1), (7, .iconst 0, 1), (8, .istore_n 2, 1), (9, .iload_n 2, 1), (10, .aload_n 0, 1), (11, .invokevirtual 116, 3), (14, .if_icmp .ge 49, 3), (17, .aload_n 0, 1), (18, .getfield 16, 3), (21, .iload_n 2, 1), (22, .iaload, 1), (23, .bipush (-9), 2), (25, .if_icmp .ne 32, 3), (28, .iload_n 1, 1), (29, .bipush (-9), 2), (31, .if_icmp .eq 24, 3), (34, .aload_n 0, 1), (35, .getfield 44, 3), (38, .iload_n 2, 1), (39, .iaload, 1), (40, .invokestatic 170, 3), (43, .aload_n 0, 1), (44, .getfield 44, 3), (47, .iload_n 1, 1), (48, .iaload, 1), (49, .invokestatic 170, 3), (52, .if_icmp .ge 5, 3), (55, .iload_n 2, 1), (56, .istore_n 1, 1), (57, .iinc 2 1, 3), (60, .goto (-51), 3), (63, .iload_n 1, 1), (64, .ireturn, 1)]
def m_c146 : List (Nat × Instr × Nat) := [(0, .aload_n 0, 1), (1, .iload_n 1, 1), (2, .invokevirtual 136, 3), (5, .ifCond .ne 5, 3), (8, .iconst (-1), 1), (9, .ireturn, 1), (10, .iconst 0, 1), (11, .istore_n 2, 1), (12, .iload_n 2, 1), (13, .bipush 10, 2), (15, .if_icmp .ge 36, 3), (18, .aload_n 0, 1), (19, .invokevirtual 140, 3), (22, .aload_n 0, 1), (23, .getfield 41, 3), (26, .bipush 9, 2), (28, .iload_n 1, 1), (29, .iadd, 1), (30, .iload_n 2, 1), (31, .iastore, 1), (32, .aload_n 0, 1), (33, .invokevirtual 195, 3), (36, .aload_n 0, 1), (37, .invokevirtual 198, 3), (40, .ifCond .eq 5, 3), (43, .iload_n 2, 1), (44, .ireturn, 1), (45, .iinc 2 1, 3), (48, .goto (-36), 3), (51, .bipush (-9), 2), (53, .ireturn, 1)]
def m_c147 : List (Nat × Instr × Nat) := [(0, .aload_n 0, 1), (1, .getfield 7, 3), (4, .iconst 5, 1), (5, .iaload, 1), (6, .istore_n 3, 1), (7, .iload_n 1, 1), (8, .ifCond .ne 12, 3), (11, .aload_n 0, 1), (12, .getfield 7, 3), (15, .iconst 4, 1), (16, .iaload, 1), (17, .goto 4, 3), (20, .iload_n 3, 1), (21, .istore 4, 2), (23, .iload_n 1, 1), (24, .ifCond .ne 12, 3), (27, .aload_n 0, 1), (28, .getfield 7, 3), (31, .iconst 4, 1), (32, .iaload, 1), (33, .goto 22, 3), (36, .aload_n 0, 1), (37, .getfield 7, 3), (40, .iload_n 1, 1), (41, .iconst 1, 1), (42, .isub, 1), (43, .iaload, 1), (44, .aload_n 0, 1), (45, .getfield 7, 3), (48, .iconst 4, 1), (49, .iaload, 1), (50, .imul, 1), (51, .iconst 2, 1), (52, .iload_n 3, 1), (53, .imul, 1), (54, .iadd, 1), (55, .istore 5, 2), (57, .iload_n 2, 1), (58, .iload 4, 2), (60, .iload 5, 2), (62, .if_icmp .le 7, 3), (65, .iconst 1, 1), (66, .goto 4, 3), (69, .iconst 0, 1), (70, .if_icmp .ne 8, 3), (73, .iload 4, 2), (75, .goto 5, 3), (78, .iload 5, 2), (80, .ireturn, 1)]
def m_c148 : List (Nat × Instr × Nat) := [(0, .iload_n 1, 1), (1, .iload_n 2, 1), (2, .if_icmp .ge 7, 3), (5, .iload_n 1, 1), (6, .goto 4, 3), (9, .iload_n 2, 1), (10, .istore_n 3, 1), (11, .iload_n 1, 1), (12, .iload_n 2, 1), (13, .if_icmp .ge 7, 3), (16, .iload_n 2, 1), (17, .goto 4, 3), (20, .iload_n 1, 1), (21, .istore 4, 2), (23, .iconst 0, 1), (24, .istore 5, 2), (26, .iload 5, 2), (28, .iconst 3, 1), (29, .if_icmp .ge 35, 3), (32, .aload_n 0, 1), (33, .iload 5, 2), (35, .iconst 0, 1), (36, .invokevirtual 201, 3), (39, .iload_n 3, 1), (40, .if_icmp .ne 18, 3), (43, .aload_n 0, 1), (44, .iload 5, 2), (46, .iconst 1, 1), (47, .invokevirtual 201, 3), (50, .iload 4, 2), (52, .if_icmp .ne 6, 3), (55, .iload 5, 2), (57, .ireturn, 1), (58, .iinc 5 1, 3), (61, .goto (-35), 3), (64, .bipush (-9), 2), (66, .ireturn, 1)]
def m_c149 : List (Nat × Instr × Nat) := [(0, .aload_n 0, 1), (1, .getfield 56, 3), (4, .iload_n 2, 1), (5, .iaload, 1), (6, .aload_n 0, 1), (7, .getfield 56, 3), (10, .iload_n 3, 1), (11, .iaload, 1), (12, .iadd, 1), (13, .istore 5, 2), (15, .iload 5, 2), (17, .aload_n 0, 1), (18, .getfield 56, 3), (21, .iload_n 1, 1), (22, .iaload, 1), (23, .if_icmp .le 68, 3), (26, .aload_n 0, 1), (27, .getfield 56, 3), (30, .iload_n 1, 1), (31, .iload 5, 2), (33, .iastore, 1), (34, .aload_n 0, 1), (35, .getfield 59, 3), (38, .iload_n 1, 1), (39, .iload 4, 2), (41, .iastore, 1), (42, .iconst 0, 1), (43, .istore 6, 2), (45, .iload 6, 2), (47, .iconst 3, 1), (48, .if_icmp .ge 43, 3), (51, .aload_n 0, 1), (52, .getfield 62, 3), (55, .iconst 3, 1), (56, .iload_n 1, 1), (57, .imul, 1), (58, .iload 6, 2), (60, .iadd, 1), (61, .aload_n 0, 1), (62, .getfield 62, 3), (65, .iconst 3, 1), (66, .iload_n 2, 1), (67, .imul, 1), (68, .iload 6, 2), (70, .iadd, 1), (71, .iaload, 1), (72, .aload_n 0, 1), (73, .getfield 62, 3), (76, .iconst 3, 1), (77, .iload_n 3, 1), (78, .imul, 1), (79, .iload 6, 2), (81, .iadd, 1), (82, .iaload, 1), (83, .iadd, 1), (84, .iastore, 1), (85, .iinc 6 1, 3), (88, .goto (-43), 3), (91, .return_, 1)]
def m_c150 : List (Nat × Instr × Nat) := [(0, .bipush 25, 2), (2, .iload_n 1, 1), (3, .imul, 1), (4, .iload_n 2, 1), (5, .iadd, 1), (6, .istore_n 3, 1), (7, .aload_n 0, 1), (8, .iload_n 1, 1), (9, .iload_n 2, 1), (10, .invokevirtual 205, 3), (13, .istore 4, 2), (15, .aload_n 0, 1), (16, .getfield 56, 3), (19, .iload_n 3, 1), (20, .iload 4, 2), (22, .bipush (-9), 2), (24, .if_icmp .ne 7, 3), (27, .iconst 0, 1), (28, .goto 6, 3), (31, .iload_n 1, 1), (32, .iload_n 2, 1), (33, .imul, 1), (34, .iastore, 1), (35, .aload_n 0, 1), (36, .getfield 59, 3), (39, .iload_n 3, 1), (40, .iload 4, 2), (42, .bipush (-9), 2), (44, .if_icmp .ne 7, 3), (47, .iconst 0, 1), (48, .goto 7, 3), (51, .iconst 1, 1), (52, .iload 4, 2), (54, .iadd, 1), (55, .iastore, 1), (56, .iconst 0, 1), (57, .istore 5, 2), (59, .iload 5, 2), (61, .iconst 3, 1), (62, .if_icmp .ge 32, 3), (65, .aload_n 0, 1), (66, .getfield 62, 3), (69, .iconst 3, 1), (70, .iload_n 3, 1), (71, .imul, 1), (72, .iload 5, 2), (74, .iadd, 1), (75, .iload 5, 2), (77, .iload 4, 2), (79, .if_icmp .ne 7, 3), (82, .iconst 1, 1), (83, .goto 4, 3), (86, .iconst 0, 1), (87, .iastore, 1), (88, .iinc 5 1, 3), (91, .goto (-32), 3), (94, .iconst 1, 1), (95, .istore 5, 2), (97, .iload 5, 2), (99, .iload_n 1, 1), (100, .if_icmp .ge 42, 3), (103, .iload 4, 2), (105, .bipush (-9), 2), (107, .if_icmp .ne 35, 3), (110, .aload_n 0, 1), (111, .iload_n 3, 1), (112, .bipush 25, 2), (114, .iload 5, 2), (116, .imul, 1), (117, .iload_n 2, 1), (118, .iadd, 1), (119, .bipush 25, 2), (121, .iload_n 1, 1), (122, .iload 5, 2), (124, .isub, 1), (125, .imul, 1), (126, .iload_n 2, 1), (127, .iadd, 1), (128, .bipush 100, 2), (130, .iload 5, 2), (132, .iadd, 1), (133, .invokevirtual 208, 3), (136, .iinc 5 1, 3), (139, .goto (-42), 3), (142, .iconst 1, 1), (143, .istore 5, 2), (145, .iload 5, 2), (147, .iload_n 2, 1), (148, .if_icmp .ge 43, 3), (151, .iload 4, 2), (153, .bipush (-9), 2), (155, .if_icmp .ne 36, 3), (158, .aload_n 0, 1), (159, .iload_n 3, 1), (160, .bipush 25, 2), (162, .iload_n 1, 1), (163, .imul, 1), (164, .iload 5, 2), (166, .iadd, 1), (167, .bipush 25, 2), (169, .iload_n 1, 1), (170, .imul, 1), (171, .iload_n 2, 1), (172, .iadd, 1), (173, .iload 5, 2), (175, .isub, 1), (176, .sipush 200, 3), (179, .iload 5, 2), (181, .iadd, 1), (182, .invokevirtual 208, 3), (185, .iinc 5 1, 3), (188, .goto (-43), 3), (191, .return_, 1)]
def m_c151 : List (Nat × Instr × Nat) := [(0, .iconst 1, 1), (1, .istore_n 1, 1), (2, .iload_n 1, 1), (3, .bipush 24, 2), (5, .if_icmp .gt 29, 3), (8, .iconst 1, 1), (9, .istore_n 2, 1), (10, .iload_n 2, 1), (11, .bipush 24, 2), (13, .if_icmp .gt 15, 3), (16, .aload_n 0, 1), (17, .iload_n 1, 1), (18, .iload_n 2, 1), (19, .invokevirtual 212, 3), (22, .iinc 2 1, 3), (25, .goto (-15), 3), (28, .iinc 1 1, 3), (31, .goto (-29), 3), (34, .return_, 1)]
def m_c152 : List (Nat × Instr × Nat) := [(0, .iload_n 0, 1), (1, .iconst 1, 1), (2, .bipush 24, 2), (4, .invokestatic 81, 3), (7, .ifCond .eq 17, 3), (10, .iload_n 1, 1), (11, .iconst 1, 1), (12, .bipush 24, 2), (14, .invokestatic 81, 3), (17, .ifCond .eq 7, 3), (20, .iconst 1, 1), (21, .goto 4, 3), (24, .iconst 0, 1), (25, .ireturn, 1)]
def m_c153 : List (Nat × Instr × Nat) := [(0, .iload_n 1, 1), (1, .iconst 0, 1), (2, .iconst 2, 1), (3, .invokestatic 81, 3), (6, .ifCond .eq 30, 3), (9, .iload_n 2, 1), (10, .iconst 0, 1), (11, .iconst 1, 1), (12, .invokestatic 81, 3), (15, .ifCond .eq 21, 3), (18, .aload_n 0, 1), (19, .iload_n 1, 1), (20, .iload_n 2, 1), (21, .iconst 1, 1), (22, .if_icmp .ne 7, 3), (25, .iconst 1, 1), (26, .goto 4, 3), (29, .iconst 0, 1), (30, .invokevirtual 201, 3), (33, .goto 4, 3), (36, .iconst (-1), 1), (37, .ireturn, 1)]
def m_c154 : List (Nat × Instr × Nat) := [(0, .iload_n 1, 1), (1, .iload_n 2, 1), (2, .invokestatic 216, 3), (5, .ifCond .ne 5, 3), (8, .iconst (-1), 1), (9, .ireturn, 1), (10, .aload_n 0, 1), (11, .invokevirtual 219, 3), (14, .aload_n 0, 1), (15, .getfield 56, 3), (18, .bipush 25, 2), (20, .iload_n 1, 1), (21, .imul, 1), (22, .iload_n 2, 1), (23, .iadd, 1), (24, .iaload, 1), (25, .ireturn, 1)]
def m_c155 : List (Nat × Instr × Nat) := [(0, .iload_n 1, 1), (1, .iload_n 2, 1), (2, .invokestatic 216, 3), (5, .ifCond .ne 5, 3), (8, .iconst (-1), 1), (9, .ireturn, 1), (10, .aload_n 0, 1), (11, .invokevirtual 219, 3), (14, .aload_n 0, 1), (15, .getfield 59, 3), (18, .bipush 25, 2), (20, .iload_n 1, 1), (21, .imul, 1), (22, .iload_n 2, 1), (23, .iadd, 1), (24, .iaload, 1), (25, .ireturn, 1)]
def m_c156 : List (Nat × Instr × Nat) := [(0, .iload_n 1, 1), (1, .iload_n 2, 1), (2, .invokestatic 216, 3), (5, .ifCond .eq 12, 3), (8, .iload_n 3, 1), (9, .iconst 0, 1), (10, .iconst 2, 1), (11, .invokestatic 81, 3), (14, .ifCond .ne 5, 3), (17, .iconst (-1), 1), (18, .ireturn, 1), (19, .aload_n 0, 1), (20, .invokevirtual 219, 3), (23, .aload_n 0, 1), (24, .getfield 62, 3), (27, .iconst 3, 1), (28, .bipush 25, 2), (30, .iload_n 1, 1), (31, .imul, 1), (32, .iload_n 2, 1), (33, .iadd, 1), (34, .imul, 1), (35, .iload_n 3, 1), (36, .iadd, 1), (37, .iaload, 1), (38, .ireturn, 1)]
def m_c157 : List (Nat × Instr × Nat) := [(0, .iload_n 1, 1), (1, .iconst 0, 1), (2, .iconst 1, 1), (3, .invokestatic 81, 3), (6, .ifCond .ne 5, 3), (9, .iconst (-1), 1), (10, .ireturn, 1), (11, .iconst 0, 1), (12, .istore_n 2, 1), (13, .iload_n 2, 1), (14, .bipush 15, 2), (16, .if_icmp .ge 26, 3), (19, .aload_n 0, 1), (20, .getfield 26, 3), (23, .bipush 15, 2), (25, .iload_n 1, 1), (26, .imul, 1), (27, .iload_n 2, 1), (28, .iadd, 1), (29, .aload_n 0, 1), (30, .getfield 16, 3), (33, .iload_n 2, 1), (34, .iaload, 1), (35, .iastore, 1), (36, .iinc 2 1, 3), (39, .goto (-26), 3), (42, .aload_n 0, 1), (43, .getfield 22, 3), (46, .iload_n 1, 1), (47, .iconst 1, 1), (48, .bastore, 1), (49, .aload_n 0, 1), (50, .invokevirtual 158, 3), (53, .ireturn, 1)]
def m_c158 : List (Nat × Instr × Nat) := [(0, .iload_n 1, 1), (1, .iconst 0, 1), (2, .iconst 1, 1), (3, .invokestatic 81, 3), (6, .ifCond .ne 5, 3), (9, .iconst (-1), 1), (10, .ireturn, 1), (11, .aload_n 0, 1), (12, .getfield 22, 3), (15, .iload_n 1, 1), (16, .baload, 1), (17, .ifCond .ne 6, 3), (20, .bipush (-2), 2), (22, .ireturn, 1), (23, .iconst 0, 1), (24, .istore_n 2, 1), (25, .iload_n 2, 1), (26, .bipush 15, 2), (28, .if_icmp .ge 26, 3), (31, .aload_n 0, 1), (32, .getfield 16, 3), (35, .iload_n 2, 1), (36, .aload_n 0, 1), (37, .getfield 26, 3), (40, .bipush 15, 2), (42, .iload_n 1, 1), (43, .imul, 1), (44, .iload_n 2, 1), (45, .iadd, 1), (46, .iaload, 1), (47, .iastore, 1), (48, .iinc 2 1, 3), (51, .goto (-26), 3), (54, .aload_n 0, 1), (55, .iconst 0, 1), (56, .putfield 78, 3), (59, .aload_n 0, 1), (60, .invokevirtual 158, 3), (63, .ireturn, 1)]
def m_c159 : List (Nat × Instr × Nat) := [(0, .iconst 0, 1), (1, .istore_n 1, 1), (2, .aload_n 0, 1), (3, .iload_n 1, 1), (4, .invokevirtual 173, 3), (7, .bipush (-9), 2), (9, .if_icmp .eq 9, 3), (12, .iinc 1 1, 3), (15, .goto (-13), 3), (18, .iload_n 1, 1), (19, .ireturn, 1)]
def m_c160 : List (Nat × Instr × Nat) := [(0, .iload_n 1, 1), (1, .tableswitch 93 0 10 #[59, 64, 64, 64, 64, 64, 64, 73, 78, 83, 88], 59), (60, .aload_n 0, 1), (61, .getfield 75, 3), (64, .ireturn, 1), (65, .aload_n 0, 1), (66, .getfield 7, 3), (69, .iload_n 1, 1), (70, .iconst 1, 1), (71, .isub, 1), (72, .iaload, 1), (73, .ireturn, 1), (74, .aload_n 0, 1), (75, .invokevirtual 158, 3), (78, .ireturn, 1), (79, .aload_n 0, 1), (80, .getfield 85, 3), (83, .ireturn, 1), (84, .aload_n 0, 1), (85, .getfield 78, 3), (88, .ireturn, 1), (89, .aload_n 0, 1), (90, .invokevirtual 222, 3), (93, .ireturn, 1), (94, .iconst (-1), 1), (95, .ireturn, 1)]
def m_c161 : List (Nat × Instr × Nat) := [(0, .iconst 0, 1), (1, .istore_n 2, 1), (2, .aload_n 0, 1), (3, .arraylength, 1), (4, .istore_n 3, 1), (5, .iload_n 2, 1), (6, .iload_n 3, 1), (7, .if_icmp .ge 13, 3), (10, .aload_n 0, 1), (11, .iload_n 2, 1), (12, .iload_n 1, 1), (13, .iastore, 1), (14, .iinc 2 1, 3), (17, .goto (-12), 3), (20, .return_, 1)]
def m_c162 : List (Nat × Instr × Nat) := [(0, .iload_n 0, 1), (1, .iload_n 0, 1), (2, .iconst 1, 1), (3, .iushr, 1), (4, .ldc_w 265, 3), (7, .iand, 1), (8, .isub, 1), (9, .istore_n 0, 1), (10, .iload_n 0, 1), (11, .ldc_w 266, 3), (14, .iand, 1), (15, .iload_n 0, 1), (16, .iconst 2, 1), (17, .iushr, 1), (18, .ldc_w 266, 3), (21, .iand, 1), (22, .iadd, 1), (23, .istore_n 0, 1), (24, .iload_n 0, 1), (25, .iload_n 0, 1), (26, .iconst 4, 1), (27, .iushr, 1), (28, .iadd, 1), (29, .ldc_w 267, 3), (32, .iand, 1), (33, .istore_n 0, 1), (34, .iload_n 0, 1), (35, .iload_n 0, 1), (36, .bipush 8, 2), (38, .iushr, 1), (39, .iadd, 1), (40, .istore_n 0, 1), (41, .iload_n 0, 1), (42, .iload_n 0, 1), (43, .bipush 16, 2), (45, .iushr, 1), (46, .iadd, 1), (47, .istore_n 0, 1), (48, .iload_n 0, 1), (49, .bipush 63, 2), (51, .iand, 1), (52, .ireturn, 1)]
/-- class, name, bytes, locals, answer, how many go in (the receiver too), place of its word -/
def m_ms : List (Nat × MethodName × ByteArray × Nat × Option FieldType × Nat × Nat) := [(0, yX0_init, cX0_init, 1, none, 1, 264),
  (0, yX0_at, cX0_at, 2, some .int, 2, 682),
  (0, yX0_measure, cX0_measure, 2, none, 2, 293),
  (0, yX0_know, cX0_know, 3, none, 1, 675),
  (0, yX0_workOut, cX0_workOut, 6, none, 3, 679),
  (0, yX0_tryCut, cX0_tryCut, 8, none, 5, 692),
  (0, yX0_pieceLike, cX0_pieceLike, 6, some .int, 3, 686),
  (1, yX1_init, cX1_init, 1, none, 1, 229),
  (1, yX1_find, cX1_find, 7, some .int, 5, 608),
  (1, yX1_giveFrom, cX1_giveFrom, 5, none, 3, 624),
  (1, yX1_tryBlock, cX1_tryBlock, 6, none, 4, 636),
  (1, yX1_roomInAll, cX1_roomInAll, 6, some .int, 2, 616),
  (1, yX1_meetingEarlier, cX1_meetingEarlier, 6, some .int, 3, 629),
  (2, yX2_init, cX2_init, 1, none, 1, 192),
  (2, yX2_begin, cX2_begin, 2, none, 2, 428),
  (2, yX2_become, cX2_become, 2, none, 2, 505),
  (2, yX2_openAll, cX2_openAll, 1, none, 1, 197),
  (2, yX2_isOpen, cX2_isOpen, 2, some .boolean, 2, 474),
  (2, yX2_leftOf, cX2_leftOf, 4, some .int, 2, 447),
  (2, yX2_squaresOfHue, cX2_squaresOfHue, 6, some .int, 3, 497),
  (3, yX3_init, cX3_init, 1, none, 1, 85),
  (3, yX3_readInto, cX3_readInto, 6, some .int, 4, 358),
  (3, yX3_startAnew, cX3_startAnew, 2, none, 2, 362),
  (3, yX3_readItem, cX3_readItem, 7, some .boolean, 4, 384),
  (3, yX3_mayStart, cX3_mayStart, 4, some .boolean, 3, 388),
  (3, yX3_numbersOf, cX3_numbersOf, 1, some .int, 1, 391),
  (3, yX3_lowestOf, cX3_lowestOf, 1, some .int, 1, 396),
  (3, yX3_highestOf, cX3_highestOf, 2, some .int, 2, 399),
  (3, yX3_put, cX3_put, 5, none, 5, 403),
  (3, yX3_putKind, cX3_putKind, 4, none, 4, 407),
  (3, yX3_readToken, cX3_readToken, 4, none, 3, 370),
  (3, yX3_readNumber, cX3_readNumber, 4, none, 3, 377),
  (3, yX3_isFigure, cX3_isFigure, 1, some .boolean, 1, 373),
  (3, yX3_isSign, cX3_isSign, 1, some .boolean, 1, 380),
  (4, yX4_init, cX4_init, 1, none, 1, 117),
  (4, yX4_startAnew, cX4_startAnew, 1, none, 1, 122),
  (4, yX4_squares, cX4_squares, 1, some .int, 1, 469),
  (4, yX4_edgeOf, cX4_edgeOf, 4, some .int, 3, 424),
  (4, yX4_isPlain, cX4_isPlain, 3, some .boolean, 2, 416),
  (4, yX4_looksLike, cX4_looksLike, 4, some .boolean, 3, 420),
  (4, yX4_settleBlocks, cX4_settleBlocks, 3, none, 1, 411),
  (4, yX4_plainWith, cX4_plainWith, 3, some .int, 3, 557),
  (4, yX4_beside, cX4_beside, 5, some .int, 3, 486),
  (4, yX4_isFirstOfHue, cX4_isFirstOfHue, 3, some .boolean, 2, 592),
  (4, yX4_hueCount, cX4_hueCount, 3, some .int, 1, 720),
  (4, yX4_hueAt, cX4_hueAt, 4, some .int, 2, 588),
  (4, yX4_kindsOfHue, cX4_kindsOfHue, 4, some .int, 2, 596),
  (5, yX5_init, cX5_init, 1, none, 1, 217),
  (5, yX5_begin, cX5_begin, 6, none, 3, 543),
  (5, yX5_settle, cX5_settle, 7, none, 3, 564),
  (5, yX5_blocksToHave, cX5_blocksToHave, 4, some .int, 2, 546),
  (5, yX5_meetingAround, cX5_meetingAround, 6, some .int, 3, 553),
  (5, yX5_supported, cX5_supported, 7, some .int, 4, 568),
  (5, yX5_meetingOneOf, cX5_meetingOneOf, 5, some .int, 3, 571),
  (6, yX6_init, cX6_init, 2, none, 1, 77),
  (6, yX6_type, cX6_type, 2, some .int, 2, 346),
  (6, yX6_clear, cX6_clear, 2, some .int, 1, 350),
  (6, yX6_tells, cX6_tells, 3, some .int, 1, 354),
  (6, yX6_kind, cX6_kind, 3, some .int, 3, 439),
  (6, yX6_block, cX6_block, 3, some .int, 3, 452),
  (6, yX6_lays, cX6_lays, 4, some .int, 3, 461),
  (6, yX6_takes, cX6_takes, 3, some .int, 2, 514),
  (6, yX6_buys, cX6_buys, 4, some .int, 3, 518),
  (6, yX6_clears, cX6_clears, 2, some .int, 1, 522),
  (6, yX6_undo, cX6_undo, 1, some .int, 1, 527),
  (6, yX6_square, cX6_square, 2, some .int, 2, 531),
  (6, yX6_fits, cX6_fits, 3, some .int, 3, 535),
  (6, yX6_left, cX6_left, 4, some .int, 3, 539),
  (6, yX6_hue, cX6_hue, 4, some .int, 3, 584),
  (6, yX6_many, cX6_many, 2, some .int, 2, 600),
  (6, yX6_quilt, cX6_quilt, 3, some .int, 3, 640),
  (6, yX6_sure, cX6_sure, 3, some .int, 1, 644),
  (6, yX6_next, cX6_next, 5, some .int, 1, 653),
  (6, yX6_wanting, cX6_wanting, 3, some .int, 2, 657),
  (6, yX6_piece, cX6_piece, 3, some .int, 3, 661),
  (6, yX6_good, cX6_good, 3, some .int, 3, 668),
  (6, yX6_cut, cX6_cut, 3, some .int, 3, 697),
  (6, yX6_made, cX6_made, 4, some .int, 4, 701),
  (6, yX6_keep, cX6_keep, 2, some .int, 2, 705),
  (6, yX6_back, cX6_back, 2, some .int, 2, 712),
  (6, yX6_count, cX6_count, 2, some .int, 2, 716),
  (6, yX6_isKind, cX6_isKind, 2, some .boolean, 2, 443),
  (6, yX6_isBlock, cX6_isBlock, 2, some .boolean, 2, 456),
  (6, yX6_isSquare, cX6_isSquare, 2, some .boolean, 2, 465),
  (6, yX6_isPiece, cX6_isPiece, 1, some .boolean, 1, 664),
  (6, yX6_isRectangle, cX6_isRectangle, 2, some .boolean, 2, 671),
  (6, yX6_isImage, cX6_isImage, 1, some .boolean, 1, 708),
  (6, yX6_openSquares, cX6_openSquares, 3, some .int, 1, 510),
  (6, yX6_forgetImages, cX6_forgetImages, 2, none, 1, 435),
  (6, yX6_remember, cX6_remember, 1, none, 1, 501),
  (6, yX6_whyNot, cX6_whyNot, 4, some .int, 3, 478),
  (6, yX6_meetsNeighbours, cX6_meetsNeighbours, 5, some .boolean, 3, 482),
  (6, yX6_keepsRim, cX6_keepsRim, 4, some .boolean, 3, 493),
  (6, yX6_quiltsOf, cX6_quiltsOf, 3, some .int, 3, 604),
  (6, yX6_sameWithAnotherAt, cX6_sameWithAnotherAt, 5, some .int, 3, 649),
  (6, yX6_bitAt, cX6_bitAt, 4, some .int, 2, 580),
  (6, yX6_opposite, cX6_opposite, 1, some .int, 1, 489),
  (7, yX7_in, cX7_in, 3, some .boolean, 3, 832),
  (7, yX7_init, cX7_init, 1, none, 1, 725),
  (7, yX7_begins, cX7_begins, 1, none, 1, 730),
  (7, yX7_becomes, cX7_becomes, 2, none, 1, 734),
  (7, yX7_type, cX7_type, 2, some .int, 2, 829),
  (7, yX7_clear, cX7_clear, 2, some .int, 1, 836),
  (7, yX7_here, cX7_here, 1, some .int, 1, 844),
  (7, yX7_reads, cX7_reads, 7, some .boolean, 3, 856),
  (7, yX7_readsKind, cX7_readsKind, 2, some .boolean, 1, 852),
  (7, yX7_readsOnce, cX7_readsOnce, 7, some .boolean, 6, 860),
  (7, yX7_item, cX7_item, 1, some .boolean, 1, 848),
  (7, yX7_tells, cX7_tells, 2, some .int, 1, 840),
  (7, yX7_isKind, cX7_isKind, 2, some .boolean, 2, 868),
  (7, yX7_isBlock, cX7_isBlock, 2, some .boolean, 2, 884),
  (7, yX7_squares, cX7_squares, 1, some .int, 1, 904),
  (7, yX7_isSquare, cX7_isSquare, 2, some .boolean, 2, 900),
  (7, yX7_edge, cX7_edge, 3, some .int, 3, 888),
  (7, yX7_isPlain, cX7_isPlain, 5, some .boolean, 2, 892),
  (7, yX7_hueOf, cX7_hueOf, 2, some .int, 2, 916),
  (7, yX7_tries, cX7_tries, 2, none, 1, 872),
  (7, yX7_leftOf, cX7_leftOf, 4, some .int, 2, 876),
  (7, yX7_ofHue, cX7_ofHue, 4, some .int, 2, 920),
  (7, yX7_beside, cX7_beside, 5, some .int, 3, 912),
  (7, yX7_whyNot, cX7_whyNot, 6, some .int, 3, 908),
  (7, yX7_kind, cX7_kind, 3, some .int, 3, 864),
  (7, yX7_block, cX7_block, 3, some .int, 3, 880),
  (7, yX7_open, cX7_open, 3, some .int, 1, 928),
  (7, yX7_notes, cX7_notes, 2, none, 1, 924),
  (7, yX7_lays, cX7_lays, 4, some .int, 3, 896),
  (7, yX7_takes, cX7_takes, 3, some .int, 2, 932),
  (7, yX7_buys, cX7_buys, 4, some .int, 3, 936),
  (7, yX7_clears, cX7_clears, 3, some .int, 1, 940),
  (7, yX7_undo, cX7_undo, 2, some .int, 1, 944),
  (7, yX7_square, cX7_square, 2, some .int, 2, 948),
  (7, yX7_fits, cX7_fits, 3, some .int, 3, 952),
  (7, yX7_has, cX7_has, 6, some .boolean, 4, 968),
  (7, yX7_stays, cX7_stays, 6, some .boolean, 3, 964),
  (7, yX7_winnows, cX7_winnows, 4, none, 1, 960),
  (7, yX7_ones, cX7_ones, 3, some .int, 1, 971),
  (7, yX7_left, cX7_left, 5, some .int, 3, 956),
  (7, yX7_hueAt, cX7_hueAt, 6, some .int, 2, 979),
  (7, yX7_hue, cX7_hue, 6, some .int, 3, 975),
  (7, yX7_startsQuilts, cX7_startsQuilts, 2, none, 1, 987),
  (7, yX7_canBe, cX7_canBe, 3, some .boolean, 3, 995),
  (7, yX7_nextQuilt, cX7_nextQuilt, 3, some .boolean, 1, 991),
  (7, yX7_many, cX7_many, 3, some .int, 2, 983),
  (7, yX7_quilt, cX7_quilt, 4, some .int, 3, 999),
  (7, yX7_sure, cX7_sure, 3, some .int, 1, 1003),
  (7, yX7_next, cX7_next, 3, some .int, 1, 1007),
  (7, yX7_wanting, cX7_wanting, 3, some .int, 2, 1011),
  (7, yX7_side, cX7_side, 6, some .int, 3, 1019),
  (7, yX7_pieceOf, cX7_pieceOf, 6, some .int, 3, 1038),
  (7, yX7_laysCut, cX7_laysCut, 7, none, 5, 1042),
  (7, yX7_laysRectangle, cX7_laysRectangle, 6, none, 3, 1034),
  (7, yX7_laysCloth, cX7_laysCloth, 3, none, 1, 1030),
  (7, yX7_isCloth, cX7_isCloth, 2, some .boolean, 2, 1026),
  (7, yX7_piece, cX7_piece, 3, some .int, 3, 1015),
  (7, yX7_good, cX7_good, 3, some .int, 3, 1023),
  (7, yX7_cut, cX7_cut, 3, some .int, 3, 1046),
  (7, yX7_made, cX7_made, 4, some .int, 4, 1050),
  (7, yX7_keep, cX7_keep, 3, some .int, 2, 1054),
  (7, yX7_back, cX7_back, 3, some .int, 2, 1058),
  (7, yX7_hues, cX7_hues, 2, some .int, 1, 1066),
  (7, yX7_count, cX7_count, 2, some .int, 2, 1062),
  (8, yJ7_fill_53178, cJ7_fill_53178, 4, none, 2, 200),
  (9, yJ6_bitCount_0f7a4, cJ6_bitCount_0f7a4, 1, some .int, 1, 574)]
def m_cs : List (List (Nat × Instr × Nat)) := [m_c0, m_c1, m_c2, m_c3, m_c4, m_c5, m_c6, m_c7, m_c8, m_c9, m_c10, m_c11, m_c12, m_c13, m_c14, m_c15, m_c16, m_c17, m_c18, m_c19, m_c20, m_c21, m_c22, m_c23, m_c24, m_c25, m_c26, m_c27, m_c28, m_c29, m_c30, m_c31, m_c32, m_c33, m_c34, m_c35, m_c36, m_c37, m_c38, m_c39, m_c40, m_c41, m_c42, m_c43, m_c44, m_c45, m_c46, m_c47, m_c48, m_c49, m_c50, m_c51, m_c52, m_c53, m_c54, m_c55, m_c56, m_c57, m_c58, m_c59, m_c60, m_c61, m_c62, m_c63, m_c64, m_c65, m_c66, m_c67, m_c68, m_c69, m_c70, m_c71, m_c72, m_c73, m_c74, m_c75, m_c76, m_c77, m_c78, m_c79, m_c80, m_c81, m_c82, m_c83, m_c84, m_c85, m_c86, m_c87, m_c88, m_c89, m_c90, m_c91, m_c92, m_c93, m_c94, m_c95, m_c96, m_c97, m_c98, m_c99, m_c100, m_c101, m_c102, m_c103, m_c104, m_c105, m_c106, m_c107, m_c108, m_c109, m_c110, m_c111, m_c112, m_c113, m_c114, m_c115, m_c116, m_c117, m_c118, m_c119, m_c120, m_c121, m_c122, m_c123, m_c124, m_c125, m_c126, m_c127, m_c128, m_c129, m_c130, m_c131, m_c132, m_c133, m_c134, m_c135, m_c136, m_c137, m_c138, m_c139, m_c140, m_c141, m_c142, m_c143, m_c144, m_c145, m_c146, m_c147, m_c148, m_c149, m_c150, m_c151, m_c152, m_c153, m_c154, m_c155, m_c156, m_c157, m_c158, m_c159, m_c160, m_c161, m_c162]
/-- own class, index: kind (0 virtual, 1 static, 2 <init>, 3 static of a nest mate, 4 <init> of a nest mate, 5 Object.<init>, 6 arraycopy, 7 max, 8 min), method, places -/
def m_mls : List (Nat × Nat × Nat × Nat × Nat × Nat × Nat × Nat) := [(6, 3, 5, 0, 78, 79, 80, 0), (6, 15, 4, 20, 83, 84, 0, 62), (3, 3, 5, 0, 86, 79, 80, 0), (6, 22, 2, 34, 115, 116, 0, 63), (4, 3, 5, 0, 118, 79, 80, 0), (4, 24, 0, 35, 119, 120, 121, 63), (6, 32, 2, 13, 190, 191, 0, 64), (2, 3, 5, 0, 193, 79, 80, 0), (2, 18, 0, 16, 194, 195, 196, 64), (2, 30, 1, 161, 198, 199, 0, 65), (6, 53, 4, 47, 215, 216, 0, 66), (5, 3, 5, 0, 218, 79, 80, 0), (6, 60, 4, 7, 227, 228, 0, 67), (1, 3, 5, 0, 230, 79, 80, 0), (6, 67, 4, 0, 262, 263, 0, 68), (0, 3, 5, 0, 265, 79, 80, 0), (6, 75, 0, 2, 290, 291, 292, 68), (6, 83, 0, 21, 355, 356, 357, 62), (3, 9, 0, 22, 359, 361, 0, 62), (3, 36, 0, 35, 363, 120, 121, 63), (3, 15, 8, 0, 364, 365, 366, 70), (3, 21, 0, 30, 367, 369, 1, 62), (3, 115, 1, 32, 371, 372, 0, 62), (3, 119, 0, 31, 374, 376, 2, 62), (3, 122, 1, 33, 378, 379, 0, 62), (3, 29, 0, 23, 381, 383, 3, 62), (3, 56, 0, 24, 385, 387, 4, 62), (3, 63, 1, 25, 389, 390, 0, 62), (3, 70, 1, 26, 394, 395, 0, 62), (3, 73, 1, 27, 397, 398, 0, 62), (3, 76, 0, 28, 400, 402, 5, 62), (3, 84, 0, 29, 404, 406, 6, 62), (6, 87, 0, 40, 408, 409, 410, 63), (4, 62, 1, 161, 412, 199, 0, 65), (4, 68, 0, 38, 413, 414, 415, 63), (4, 55, 0, 39, 417, 418, 419, 63), (4, 59, 0, 37, 421, 422, 423, 63), (6, 90, 0, 14, 425, 426, 427, 64), (2, 24, 6, 0, 429, 431, 430, 71), (6, 96, 0, 88, 432, 434, 7, 61), (6, 99, 0, 81, 440, 442, 8, 61), (6, 109, 0, 18, 444, 445, 446, 64), (6, 113, 0, 37, 448, 422, 423, 63), (6, 117, 0, 82, 453, 455, 9, 61), (6, 120, 0, 38, 457, 414, 415, 63), (6, 123, 0, 83, 462, 464, 10, 61), (6, 142, 0, 36, 466, 467, 468, 63), (4, 49, 8, 0, 470, 365, 366, 70), (6, 126, 0, 17, 471, 472, 473, 64), (6, 129, 0, 90, 475, 477, 11, 61), (6, 258, 0, 91, 479, 481, 12, 61), (6, 264, 0, 42, 483, 484, 485, 63), (6, 267, 1, 96, 487, 488, 0, 61), (6, 261, 0, 92, 490, 492, 13, 61), (6, 178, 0, 19, 494, 495, 496, 64), (6, 132, 0, 89, 498, 500, 14, 61), (6, 151, 0, 15, 502, 503, 504, 64), (6, 253, 8, 0, 506, 365, 366, 70), (6, 138, 0, 87, 507, 509, 15, 61), (6, 145, 0, 16, 523, 195, 196, 64), (6, 155, 0, 48, 540, 541, 542, 66), (5, 15, 1, 50, 544, 545, 0, 66), (5, 42, 0, 18, 547, 445, 446, 64), (5, 49, 0, 19, 548, 495, 496, 64), (5, 19, 0, 36, 549, 467, 468, 63), (5, 25, 0, 17, 550, 472, 473, 64), (5, 31, 1, 51, 551, 552, 0, 66), (5, 56, 0, 41, 554, 555, 556, 63), (5, 60, 0, 42, 558, 484, 485, 63), (5, 69, 3, 96, 559, 488, 0, 61), (5, 72, 0, 37, 560, 422, 423, 63), (6, 158, 0, 49, 561, 562, 563, 66), (5, 35, 0, 52, 565, 567, 16, 66), (5, 75, 1, 53, 569, 570, 0, 66), (6, 164, 1, 162, 572, 573, 0, 72), (6, 169, 1, 95, 578, 579, 0, 61), (6, 172, 0, 45, 585, 586, 587, 63), (4, 72, 0, 43, 589, 590, 591, 63), (6, 175, 0, 46, 593, 594, 595, 63), (6, 182, 0, 93, 601, 603, 17, 61), (6, 270, 0, 8, 605, 606, 607, 67), (1, 31, 0, 36, 609, 467, 468, 63), (1, 45, 0, 17, 610, 472, 473, 64), (1, 52, 0, 18, 611, 445, 446, 64), (1, 59, 0, 19, 612, 495, 496, 64), (1, 69, 0, 11, 613, 615, 18, 67), (1, 93, 7, 0, 617, 618, 619, 70), (1, 99, 8, 0, 620, 365, 366, 70), (1, 73, 0, 9, 621, 623, 19, 67), (1, 77, 6, 0, 625, 431, 430, 71), (1, 83, 0, 12, 626, 628, 20, 67), (1, 102, 0, 42, 630, 484, 485, 63), (1, 105, 0, 37, 631, 422, 423, 63), (1, 108, 0, 41, 632, 555, 556, 63), (1, 86, 0, 10, 633, 635, 21, 67), (6, 189, 6, 0, 645, 431, 430, 71), (6, 195, 0, 94, 646, 648, 22, 61), (6, 198, 1, 84, 662, 663, 0, 61), (6, 207, 1, 85, 669, 670, 0, 61), (6, 211, 0, 3, 672, 673, 674, 68), (0, 46, 0, 4, 676, 678, 23, 68), (0, 50, 1, 1, 680, 681, 0, 68), (0, 54, 0, 6, 683, 685, 24, 68), (0, 61, 8, 0, 687, 365, 366, 70), (0, 66, 7, 0, 688, 618, 619, 70), (0, 57, 0, 5, 689, 691, 25, 68), (6, 217, 1, 1, 693, 681, 0, 68), (6, 226, 1, 86, 706, 707, 0, 61), (6, 250, 0, 44, 717, 718, 719, 63), (7, 1, 5, 0, 726, 79, 80, 0), (7, 65, 0, 99, 727, 729, 26, 69), (7, 68, 0, 100, 731, 733, 27, 69), (7, 81, 1, 97, 830, 831, 0, 69), (7, 91, 0, 103, 841, 843, 28, 69), (7, 113, 0, 107, 845, 847, 29, 69), (7, 105, 0, 105, 849, 851, 30, 69), (7, 98, 0, 104, 853, 855, 31, 69), (7, 109, 0, 106, 857, 859, 32, 69), (7, 136, 0, 109, 865, 867, 33, 69), (7, 140, 0, 116, 869, 871, 34, 69), (7, 127, 0, 117, 873, 875, 35, 69), (7, 143, 0, 110, 881, 883, 36, 69), (7, 119, 0, 113, 885, 887, 37, 69), (7, 146, 0, 114, 889, 891, 38, 69), (7, 149, 0, 112, 897, 899, 39, 69), (7, 116, 0, 111, 901, 903, 40, 69), (7, 152, 0, 120, 905, 907, 41, 69), (7, 130, 0, 119, 909, 911, 42, 69), (7, 123, 0, 115, 913, 915, 43, 69), (7, 133, 0, 118, 917, 919, 44, 69), (7, 155, 0, 124, 921, 923, 45, 69), (7, 158, 0, 123, 925, 927, 46, 69), (7, 167, 0, 134, 957, 959, 47, 69), (7, 164, 0, 133, 961, 963, 48, 69), (7, 161, 0, 132, 965, 967, 49, 69), (7, 170, 1, 135, 969, 970, 0, 69), (7, 173, 0, 137, 976, 978, 50, 69), (7, 195, 0, 139, 984, 986, 51, 69), (7, 198, 0, 141, 988, 990, 52, 69), (7, 192, 0, 140, 992, 994, 53, 69), (7, 201, 0, 147, 1016, 1018, 54, 69), (7, 216, 1, 152, 1024, 1025, 0, 69), (7, 219, 0, 151, 1027, 1029, 55, 69), (7, 212, 0, 150, 1031, 1033, 56, 69), (7, 205, 0, 148, 1035, 1037, 57, 69), (7, 208, 0, 149, 1039, 1041, 58, 69), (7, 222, 0, 159, 1063, 1065, 59, 69)]
def m_prim (y : Nat) : Bool := y == 25 || y == 27

def m_fl (o x : Nat) : Option (Nat × Nat) := (m_fls.find? (fun q => q.1 == o && q.2.1 == x)).map (fun q => (q.2.2.1, q.2.2.2.1))
def m_cl (o x : Nat) : Option Nat := (m_cls.find? (fun q => q.1 == o && q.2.1 == x)).map (fun q => q.2.2.1)
def m_cn (o x : Nat) : Option Int := (m_cns.find? (fun q => q.1 == o && q.2.1 == x)).map (fun q => q.2.2.1)
def m_ml (o x : Nat) : Option (Nat × Nat) := (m_mls.find? (fun q => q.1 == o && q.2.1 == x)).map (fun q => (q.2.2.1, q.2.2.2.1))
def m_md (y : Nat) : Nat × MethodName × ByteArray × Nat × Option FieldType × Nat × Nat := m_ms.getD y (0, objectInit, ⟨#[]⟩, 0, none, 0, 0)
abbrev m_own (y : Nat) : Nat := (m_md y).1
abbrev m_nm (y : Nat) : MethodName := (m_md y).2.1
abbrev m_by (y : Nat) : ByteArray := (m_md y).2.2.1
abbrev m_mx (y : Nat) : Nat := (m_md y).2.2.2.1
abbrev m_rt (y : Nat) : Option FieldType := (m_md y).2.2.2.2.1
abbrev m_na (y : Nat) : Nat := (m_md y).2.2.2.2.2.1
def m_get (y pc : Nat) : Option (Instr × Nat) := ((m_cs.getD y []).find? (fun q => q.1 == pc)).map (fun q => q.2)
end
section
/-! the tables are right: decoded bytes, words (printed by gen2.py) -/
set_option maxRecDepth 100000 in
theorem m_dc0 : m_c0.all (fun q => decide (decode cX0_init q.1 = .ok q.2)) = true := by decide +kernel
set_option maxRecDepth 100000 in
theorem m_dc1 : m_c1.all (fun q => decide (decode cX0_at q.1 = .ok q.2)) = true := by decide +kernel
set_option maxRecDepth 100000 in
theorem m_dc2 : m_c2.all (fun q => decide (decode cX0_measure q.1 = .ok q.2)) = true := by decide +kernel
set_option maxRecDepth 100000 in
theorem m_dc3 : m_c3.all (fun q => decide (decode cX0_know q.1 = .ok q.2)) = true := by decide +kernel
set_option maxRecDepth 100000 in
theorem m_dc4 : m_c4.all (fun q => decide (decode cX0_workOut q.1 = .ok q.2)) = true := by decide +kernel
set_option maxRecDepth 100000 in
theorem m_dc5 : m_c5.all (fun q => decide (decode cX0_tryCut q.1 = .ok q.2)) = true := by decide +kernel
set_option maxRecDepth 100000 in
theorem m_dc6 : m_c6.all (fun q => decide (decode cX0_pieceLike q.1 = .ok q.2)) = true := by decide +kernel
set_option maxRecDepth 100000 in
theorem m_dc7 : m_c7.all (fun q => decide (decode cX1_init q.1 = .ok q.2)) = true := by decide +kernel
set_option maxRecDepth 100000 in
theorem m_dc8 : m_c8.all (fun q => decide (decode cX1_find q.1 = .ok q.2)) = true := by decide +kernel
set_option maxRecDepth 100000 in
theorem m_dc9 : m_c9.all (fun q => decide (decode cX1_giveFrom q.1 = .ok q.2)) = true := by decide +kernel
set_option maxRecDepth 100000 in
theorem m_dc10 : m_c10.all (fun q => decide (decode cX1_tryBlock q.1 = .ok q.2)) = true := by decide +kernel
set_option maxRecDepth 100000 in
theorem m_dc11 : m_c11.all (fun q => decide (decode cX1_roomInAll q.1 = .ok q.2)) = true := by decide +kernel
set_option maxRecDepth 100000 in
theorem m_dc12 : m_c12.all (fun q => decide (decode cX1_meetingEarlier q.1 = .ok q.2)) = true := by decide +kernel
set_option maxRecDepth 100000 in
theorem m_dc13 : m_c13.all (fun q => decide (decode cX2_init q.1 = .ok q.2)) = true := by decide +kernel
set_option maxRecDepth 100000 in
theorem m_dc14 : m_c14.all (fun q => decide (decode cX2_begin q.1 = .ok q.2)) = true := by decide +kernel
set_option maxRecDepth 100000 in
theorem m_dc15 : m_c15.all (fun q => decide (decode cX2_become q.1 = .ok q.2)) = true := by decide +kernel
set_option maxRecDepth 100000 in
theorem m_dc16 : m_c16.all (fun q => decide (decode cX2_openAll q.1 = .ok q.2)) = true := by decide +kernel
set_option maxRecDepth 100000 in
theorem m_dc17 : m_c17.all (fun q => decide (decode cX2_isOpen q.1 = .ok q.2)) = true := by decide +kernel
set_option maxRecDepth 100000 in
theorem m_dc18 : m_c18.all (fun q => decide (decode cX2_leftOf q.1 = .ok q.2)) = true := by decide +kernel
set_option maxRecDepth 100000 in
theorem m_dc19 : m_c19.all (fun q => decide (decode cX2_squaresOfHue q.1 = .ok q.2)) = true := by decide +kernel
set_option maxRecDepth 100000 in
theorem m_dc20 : m_c20.all (fun q => decide (decode cX3_init q.1 = .ok q.2)) = true := by decide +kernel
set_option maxRecDepth 100000 in
theorem m_dc21 : m_c21.all (fun q => decide (decode cX3_readInto q.1 = .ok q.2)) = true := by decide +kernel
set_option maxRecDepth 100000 in
theorem m_dc22 : m_c22.all (fun q => decide (decode cX3_startAnew q.1 = .ok q.2)) = true := by decide +kernel
set_option maxRecDepth 100000 in
theorem m_dc23 : m_c23.all (fun q => decide (decode cX3_readItem q.1 = .ok q.2)) = true := by decide +kernel
set_option maxRecDepth 100000 in
theorem m_dc24 : m_c24.all (fun q => decide (decode cX3_mayStart q.1 = .ok q.2)) = true := by decide +kernel
set_option maxRecDepth 100000 in
theorem m_dc25 : m_c25.all (fun q => decide (decode cX3_numbersOf q.1 = .ok q.2)) = true := by decide +kernel
set_option maxRecDepth 100000 in
theorem m_dc26 : m_c26.all (fun q => decide (decode cX3_lowestOf q.1 = .ok q.2)) = true := by decide +kernel
set_option maxRecDepth 100000 in
theorem m_dc27 : m_c27.all (fun q => decide (decode cX3_highestOf q.1 = .ok q.2)) = true := by decide +kernel
set_option maxRecDepth 100000 in
theorem m_dc28 : m_c28.all (fun q => decide (decode cX3_put q.1 = .ok q.2)) = true := by decide +kernel
set_option maxRecDepth 100000 in
theorem m_dc29 : m_c29.all (fun q => decide (decode cX3_putKind q.1 = .ok q.2)) = true := by decide +kernel
set_option maxRecDepth 100000 in
theorem m_dc30 : m_c30.all (fun q => decide (decode cX3_readToken q.1 = .ok q.2)) = true := by decide +kernel
set_option maxRecDepth 100000 in
theorem m_dc31 : m_c31.all (fun q => decide (decode cX3_readNumber q.1 = .ok q.2)) = true := by decide +kernel
set_option maxRecDepth 100000 in
theorem m_dc32 : m_c32.all (fun q => decide (decode cX3_isFigure q.1 = .ok q.2)) = true := by decide +kernel
set_option maxRecDepth 100000 in
theorem m_dc33 : m_c33.all (fun q => decide (decode cX3_isSign q.1 = .ok q.2)) = true := by decide +kernel
set_option maxRecDepth 100000 in
theorem m_dc34 : m_c34.all (fun q => decide (decode cX4_init q.1 = .ok q.2)) = true := by decide +kernel
set_option maxRecDepth 100000 in
theorem m_dc35 : m_c35.all (fun q => decide (decode cX4_startAnew q.1 = .ok q.2)) = true := by decide +kernel
set_option maxRecDepth 100000 in
theorem m_dc36 : m_c36.all (fun q => decide (decode cX4_squares q.1 = .ok q.2)) = true := by decide +kernel
set_option maxRecDepth 100000 in
theorem m_dc37 : m_c37.all (fun q => decide (decode cX4_edgeOf q.1 = .ok q.2)) = true := by decide +kernel
set_option maxRecDepth 100000 in
theorem m_dc38 : m_c38.all (fun q => decide (decode cX4_isPlain q.1 = .ok q.2)) = true := by decide +kernel
set_option maxRecDepth 100000 in
theorem m_dc39 : m_c39.all (fun q => decide (decode cX4_looksLike q.1 = .ok q.2)) = true := by decide +kernel
set_option maxRecDepth 100000 in
theorem m_dc40 : m_c40.all (fun q => decide (decode cX4_settleBlocks q.1 = .ok q.2)) = true := by decide +kernel
set_option maxRecDepth 100000 in
theorem m_dc41 : m_c41.all (fun q => decide (decode cX4_plainWith q.1 = .ok q.2)) = true := by decide +kernel
set_option maxRecDepth 100000 in
theorem m_dc42 : m_c42.all (fun q => decide (decode cX4_beside q.1 = .ok q.2)) = true := by decide +kernel
set_option maxRecDepth 100000 in
theorem m_dc43 : m_c43.all (fun q => decide (decode cX4_isFirstOfHue q.1 = .ok q.2)) = true := by decide +kernel
set_option maxRecDepth 100000 in
theorem m_dc44 : m_c44.all (fun q => decide (decode cX4_hueCount q.1 = .ok q.2)) = true := by decide +kernel
set_option maxRecDepth 100000 in
theorem m_dc45 : m_c45.all (fun q => decide (decode cX4_hueAt q.1 = .ok q.2)) = true := by decide +kernel
set_option maxRecDepth 100000 in
theorem m_dc46 : m_c46.all (fun q => decide (decode cX4_kindsOfHue q.1 = .ok q.2)) = true := by decide +kernel
set_option maxRecDepth 100000 in
theorem m_dc47 : m_c47.all (fun q => decide (decode cX5_init q.1 = .ok q.2)) = true := by decide +kernel
set_option maxRecDepth 100000 in
theorem m_dc48 : m_c48.all (fun q => decide (decode cX5_begin q.1 = .ok q.2)) = true := by decide +kernel
set_option maxRecDepth 100000 in
theorem m_dc49 : m_c49.all (fun q => decide (decode cX5_settle q.1 = .ok q.2)) = true := by decide +kernel
set_option maxRecDepth 100000 in
theorem m_dc50 : m_c50.all (fun q => decide (decode cX5_blocksToHave q.1 = .ok q.2)) = true := by decide +kernel
set_option maxRecDepth 100000 in
theorem m_dc51 : m_c51.all (fun q => decide (decode cX5_meetingAround q.1 = .ok q.2)) = true := by decide +kernel
set_option maxRecDepth 100000 in
theorem m_dc52 : m_c52.all (fun q => decide (decode cX5_supported q.1 = .ok q.2)) = true := by decide +kernel
set_option maxRecDepth 100000 in
theorem m_dc53 : m_c53.all (fun q => decide (decode cX5_meetingOneOf q.1 = .ok q.2)) = true := by decide +kernel
set_option maxRecDepth 100000 in
theorem m_dc54 : m_c54.all (fun q => decide (decode cX6_init q.1 = .ok q.2)) = true := by decide +kernel
set_option maxRecDepth 100000 in
theorem m_dc55 : m_c55.all (fun q => decide (decode cX6_type q.1 = .ok q.2)) = true := by decide +kernel
set_option maxRecDepth 100000 in
theorem m_dc56 : m_c56.all (fun q => decide (decode cX6_clear q.1 = .ok q.2)) = true := by decide +kernel
set_option maxRecDepth 100000 in
theorem m_dc57 : m_c57.all (fun q => decide (decode cX6_tells q.1 = .ok q.2)) = true := by decide +kernel
set_option maxRecDepth 100000 in
theorem m_dc58 : m_c58.all (fun q => decide (decode cX6_kind q.1 = .ok q.2)) = true := by decide +kernel
set_option maxRecDepth 100000 in
theorem m_dc59 : m_c59.all (fun q => decide (decode cX6_block q.1 = .ok q.2)) = true := by decide +kernel
set_option maxRecDepth 100000 in
theorem m_dc60 : m_c60.all (fun q => decide (decode cX6_lays q.1 = .ok q.2)) = true := by decide +kernel
set_option maxRecDepth 100000 in
theorem m_dc61 : m_c61.all (fun q => decide (decode cX6_takes q.1 = .ok q.2)) = true := by decide +kernel
set_option maxRecDepth 100000 in
theorem m_dc62 : m_c62.all (fun q => decide (decode cX6_buys q.1 = .ok q.2)) = true := by decide +kernel
set_option maxRecDepth 100000 in
theorem m_dc63 : m_c63.all (fun q => decide (decode cX6_clears q.1 = .ok q.2)) = true := by decide +kernel
set_option maxRecDepth 100000 in
theorem m_dc64 : m_c64.all (fun q => decide (decode cX6_undo q.1 = .ok q.2)) = true := by decide +kernel
set_option maxRecDepth 100000 in
theorem m_dc65 : m_c65.all (fun q => decide (decode cX6_square q.1 = .ok q.2)) = true := by decide +kernel
set_option maxRecDepth 100000 in
theorem m_dc66 : m_c66.all (fun q => decide (decode cX6_fits q.1 = .ok q.2)) = true := by decide +kernel
set_option maxRecDepth 100000 in
theorem m_dc67 : m_c67.all (fun q => decide (decode cX6_left q.1 = .ok q.2)) = true := by decide +kernel
set_option maxRecDepth 100000 in
theorem m_dc68 : m_c68.all (fun q => decide (decode cX6_hue q.1 = .ok q.2)) = true := by decide +kernel
set_option maxRecDepth 100000 in
theorem m_dc69 : m_c69.all (fun q => decide (decode cX6_many q.1 = .ok q.2)) = true := by decide +kernel
set_option maxRecDepth 100000 in
theorem m_dc70 : m_c70.all (fun q => decide (decode cX6_quilt q.1 = .ok q.2)) = true := by decide +kernel
set_option maxRecDepth 100000 in
theorem m_dc71 : m_c71.all (fun q => decide (decode cX6_sure q.1 = .ok q.2)) = true := by decide +kernel
set_option maxRecDepth 100000 in
theorem m_dc72 : m_c72.all (fun q => decide (decode cX6_next q.1 = .ok q.2)) = true := by decide +kernel
set_option maxRecDepth 100000 in
theorem m_dc73 : m_c73.all (fun q => decide (decode cX6_wanting q.1 = .ok q.2)) = true := by decide +kernel
set_option maxRecDepth 100000 in
theorem m_dc74 : m_c74.all (fun q => decide (decode cX6_piece q.1 = .ok q.2)) = true := by decide +kernel
set_option maxRecDepth 100000 in
theorem m_dc75 : m_c75.all (fun q => decide (decode cX6_good q.1 = .ok q.2)) = true := by decide +kernel
set_option maxRecDepth 100000 in
theorem m_dc76 : m_c76.all (fun q => decide (decode cX6_cut q.1 = .ok q.2)) = true := by decide +kernel
set_option maxRecDepth 100000 in
theorem m_dc77 : m_c77.all (fun q => decide (decode cX6_made q.1 = .ok q.2)) = true := by decide +kernel
set_option maxRecDepth 100000 in
theorem m_dc78 : m_c78.all (fun q => decide (decode cX6_keep q.1 = .ok q.2)) = true := by decide +kernel
set_option maxRecDepth 100000 in
theorem m_dc79 : m_c79.all (fun q => decide (decode cX6_back q.1 = .ok q.2)) = true := by decide +kernel
set_option maxRecDepth 100000 in
theorem m_dc80 : m_c80.all (fun q => decide (decode cX6_count q.1 = .ok q.2)) = true := by decide +kernel
set_option maxRecDepth 100000 in
theorem m_dc81 : m_c81.all (fun q => decide (decode cX6_isKind q.1 = .ok q.2)) = true := by decide +kernel
set_option maxRecDepth 100000 in
theorem m_dc82 : m_c82.all (fun q => decide (decode cX6_isBlock q.1 = .ok q.2)) = true := by decide +kernel
set_option maxRecDepth 100000 in
theorem m_dc83 : m_c83.all (fun q => decide (decode cX6_isSquare q.1 = .ok q.2)) = true := by decide +kernel
set_option maxRecDepth 100000 in
theorem m_dc84 : m_c84.all (fun q => decide (decode cX6_isPiece q.1 = .ok q.2)) = true := by decide +kernel
set_option maxRecDepth 100000 in
theorem m_dc85 : m_c85.all (fun q => decide (decode cX6_isRectangle q.1 = .ok q.2)) = true := by decide +kernel
set_option maxRecDepth 100000 in
theorem m_dc86 : m_c86.all (fun q => decide (decode cX6_isImage q.1 = .ok q.2)) = true := by decide +kernel
set_option maxRecDepth 100000 in
theorem m_dc87 : m_c87.all (fun q => decide (decode cX6_openSquares q.1 = .ok q.2)) = true := by decide +kernel
set_option maxRecDepth 100000 in
theorem m_dc88 : m_c88.all (fun q => decide (decode cX6_forgetImages q.1 = .ok q.2)) = true := by decide +kernel
set_option maxRecDepth 100000 in
theorem m_dc89 : m_c89.all (fun q => decide (decode cX6_remember q.1 = .ok q.2)) = true := by decide +kernel
set_option maxRecDepth 100000 in
theorem m_dc90 : m_c90.all (fun q => decide (decode cX6_whyNot q.1 = .ok q.2)) = true := by decide +kernel
set_option maxRecDepth 100000 in
theorem m_dc91 : m_c91.all (fun q => decide (decode cX6_meetsNeighbours q.1 = .ok q.2)) = true := by decide +kernel
set_option maxRecDepth 100000 in
theorem m_dc92 : m_c92.all (fun q => decide (decode cX6_keepsRim q.1 = .ok q.2)) = true := by decide +kernel
set_option maxRecDepth 100000 in
theorem m_dc93 : m_c93.all (fun q => decide (decode cX6_quiltsOf q.1 = .ok q.2)) = true := by decide +kernel
set_option maxRecDepth 100000 in
theorem m_dc94 : m_c94.all (fun q => decide (decode cX6_sameWithAnotherAt q.1 = .ok q.2)) = true := by decide +kernel
set_option maxRecDepth 100000 in
theorem m_dc95 : m_c95.all (fun q => decide (decode cX6_bitAt q.1 = .ok q.2)) = true := by decide +kernel
set_option maxRecDepth 100000 in
theorem m_dc96 : m_c96.all (fun q => decide (decode cX6_opposite q.1 = .ok q.2)) = true := by decide +kernel
set_option maxRecDepth 100000 in
theorem m_dc97 : m_c97.all (fun q => decide (decode cX7_in q.1 = .ok q.2)) = true := by decide +kernel
set_option maxRecDepth 100000 in
theorem m_dc98 : m_c98.all (fun q => decide (decode cX7_init q.1 = .ok q.2)) = true := by decide +kernel
set_option maxRecDepth 100000 in
theorem m_dc99 : m_c99.all (fun q => decide (decode cX7_begins q.1 = .ok q.2)) = true := by decide +kernel
set_option maxRecDepth 100000 in
theorem m_dc100 : m_c100.all (fun q => decide (decode cX7_becomes q.1 = .ok q.2)) = true := by decide +kernel
set_option maxRecDepth 100000 in
theorem m_dc101 : m_c101.all (fun q => decide (decode cX7_type q.1 = .ok q.2)) = true := by decide +kernel
set_option maxRecDepth 100000 in
theorem m_dc102 : m_c102.all (fun q => decide (decode cX7_clear q.1 = .ok q.2)) = true := by decide +kernel
set_option maxRecDepth 100000 in
theorem m_dc103 : m_c103.all (fun q => decide (decode cX7_here q.1 = .ok q.2)) = true := by decide +kernel
set_option maxRecDepth 100000 in
theorem m_dc104 : m_c104.all (fun q => decide (decode cX7_reads q.1 = .ok q.2)) = true := by decide +kernel
set_option maxRecDepth 100000 in
theorem m_dc105 : m_c105.all (fun q => decide (decode cX7_readsKind q.1 = .ok q.2)) = true := by decide +kernel
set_option maxRecDepth 100000 in
theorem m_dc106 : m_c106.all (fun q => decide (decode cX7_readsOnce q.1 = .ok q.2)) = true := by decide +kernel
set_option maxRecDepth 100000 in
theorem m_dc107 : m_c107.all (fun q => decide (decode cX7_item q.1 = .ok q.2)) = true := by decide +kernel
set_option maxRecDepth 100000 in
theorem m_dc108 : m_c108.all (fun q => decide (decode cX7_tells q.1 = .ok q.2)) = true := by decide +kernel
set_option maxRecDepth 100000 in
theorem m_dc109 : m_c109.all (fun q => decide (decode cX7_isKind q.1 = .ok q.2)) = true := by decide +kernel
set_option maxRecDepth 100000 in
theorem m_dc110 : m_c110.all (fun q => decide (decode cX7_isBlock q.1 = .ok q.2)) = true := by decide +kernel
set_option maxRecDepth 100000 in
theorem m_dc111 : m_c111.all (fun q => decide (decode cX7_squares q.1 = .ok q.2)) = true := by decide +kernel
set_option maxRecDepth 100000 in
theorem m_dc112 : m_c112.all (fun q => decide (decode cX7_isSquare q.1 = .ok q.2)) = true := by decide +kernel
set_option maxRecDepth 100000 in
theorem m_dc113 : m_c113.all (fun q => decide (decode cX7_edge q.1 = .ok q.2)) = true := by decide +kernel
set_option maxRecDepth 100000 in
theorem m_dc114 : m_c114.all (fun q => decide (decode cX7_isPlain q.1 = .ok q.2)) = true := by decide +kernel
set_option maxRecDepth 100000 in
theorem m_dc115 : m_c115.all (fun q => decide (decode cX7_hueOf q.1 = .ok q.2)) = true := by decide +kernel
set_option maxRecDepth 100000 in
theorem m_dc116 : m_c116.all (fun q => decide (decode cX7_tries q.1 = .ok q.2)) = true := by decide +kernel
set_option maxRecDepth 100000 in
theorem m_dc117 : m_c117.all (fun q => decide (decode cX7_leftOf q.1 = .ok q.2)) = true := by decide +kernel
set_option maxRecDepth 100000 in
theorem m_dc118 : m_c118.all (fun q => decide (decode cX7_ofHue q.1 = .ok q.2)) = true := by decide +kernel
set_option maxRecDepth 100000 in
theorem m_dc119 : m_c119.all (fun q => decide (decode cX7_beside q.1 = .ok q.2)) = true := by decide +kernel
set_option maxRecDepth 100000 in
theorem m_dc120 : m_c120.all (fun q => decide (decode cX7_whyNot q.1 = .ok q.2)) = true := by decide +kernel
set_option maxRecDepth 100000 in
theorem m_dc121 : m_c121.all (fun q => decide (decode cX7_kind q.1 = .ok q.2)) = true := by decide +kernel
set_option maxRecDepth 100000 in
theorem m_dc122 : m_c122.all (fun q => decide (decode cX7_block q.1 = .ok q.2)) = true := by decide +kernel
set_option maxRecDepth 100000 in
theorem m_dc123 : m_c123.all (fun q => decide (decode cX7_open q.1 = .ok q.2)) = true := by decide +kernel
set_option maxRecDepth 100000 in
theorem m_dc124 : m_c124.all (fun q => decide (decode cX7_notes q.1 = .ok q.2)) = true := by decide +kernel
set_option maxRecDepth 100000 in
theorem m_dc125 : m_c125.all (fun q => decide (decode cX7_lays q.1 = .ok q.2)) = true := by decide +kernel
set_option maxRecDepth 100000 in
theorem m_dc126 : m_c126.all (fun q => decide (decode cX7_takes q.1 = .ok q.2)) = true := by decide +kernel
set_option maxRecDepth 100000 in
theorem m_dc127 : m_c127.all (fun q => decide (decode cX7_buys q.1 = .ok q.2)) = true := by decide +kernel
set_option maxRecDepth 100000 in
theorem m_dc128 : m_c128.all (fun q => decide (decode cX7_clears q.1 = .ok q.2)) = true := by decide +kernel
set_option maxRecDepth 100000 in
theorem m_dc129 : m_c129.all (fun q => decide (decode cX7_undo q.1 = .ok q.2)) = true := by decide +kernel
set_option maxRecDepth 100000 in
theorem m_dc130 : m_c130.all (fun q => decide (decode cX7_square q.1 = .ok q.2)) = true := by decide +kernel
set_option maxRecDepth 100000 in
theorem m_dc131 : m_c131.all (fun q => decide (decode cX7_fits q.1 = .ok q.2)) = true := by decide +kernel
set_option maxRecDepth 100000 in
theorem m_dc132 : m_c132.all (fun q => decide (decode cX7_has q.1 = .ok q.2)) = true := by decide +kernel
set_option maxRecDepth 100000 in
theorem m_dc133 : m_c133.all (fun q => decide (decode cX7_stays q.1 = .ok q.2)) = true := by decide +kernel
set_option maxRecDepth 100000 in
theorem m_dc134 : m_c134.all (fun q => decide (decode cX7_winnows q.1 = .ok q.2)) = true := by decide +kernel
set_option maxRecDepth 100000 in
theorem m_dc135 : m_c135.all (fun q => decide (decode cX7_ones q.1 = .ok q.2)) = true := by decide +kernel
set_option maxRecDepth 100000 in
theorem m_dc136 : m_c136.all (fun q => decide (decode cX7_left q.1 = .ok q.2)) = true := by decide +kernel
set_option maxRecDepth 100000 in
theorem m_dc137 : m_c137.all (fun q => decide (decode cX7_hueAt q.1 = .ok q.2)) = true := by decide +kernel
set_option maxRecDepth 100000 in
theorem m_dc138 : m_c138.all (fun q => decide (decode cX7_hue q.1 = .ok q.2)) = true := by decide +kernel
set_option maxRecDepth 100000 in
theorem m_dc139 : m_c139.all (fun q => decide (decode cX7_startsQuilts q.1 = .ok q.2)) = true := by decide +kernel
set_option maxRecDepth 100000 in
theorem m_dc140 : m_c140.all (fun q => decide (decode cX7_canBe q.1 = .ok q.2)) = true := by decide +kernel
set_option maxRecDepth 100000 in
theorem m_dc141 : m_c141.all (fun q => decide (decode cX7_nextQuilt q.1 = .ok q.2)) = true := by decide +kernel
set_option maxRecDepth 100000 in
theorem m_dc142 : m_c142.all (fun q => decide (decode cX7_many q.1 = .ok q.2)) = true := by decide +kernel
set_option maxRecDepth 100000 in
theorem m_dc143 : m_c143.all (fun q => decide (decode cX7_quilt q.1 = .ok q.2)) = true := by decide +kernel
set_option maxRecDepth 100000 in
theorem m_dc144 : m_c144.all (fun q => decide (decode cX7_sure q.1 = .ok q.2)) = true := by decide +kernel
set_option maxRecDepth 100000 in
theorem m_dc145 : m_c145.all (fun q => decide (decode cX7_next q.1 = .ok q.2)) = true := by decide +kernel
set_option maxRecDepth 100000 in
theorem m_dc146 : m_c146.all (fun q => decide (decode cX7_wanting q.1 = .ok q.2)) = true := by decide +kernel
set_option maxRecDepth 100000 in
theorem m_dc147 : m_c147.all (fun q => decide (decode cX7_side q.1 = .ok q.2)) = true := by decide +kernel
set_option maxRecDepth 100000 in
theorem m_dc148 : m_c148.all (fun q => decide (decode cX7_pieceOf q.1 = .ok q.2)) = true := by decide +kernel
set_option maxRecDepth 100000 in
theorem m_dc149 : m_c149.all (fun q => decide (decode cX7_laysCut q.1 = .ok q.2)) = true := by decide +kernel
set_option maxRecDepth 100000 in
theorem m_dc150 : m_c150.all (fun q => decide (decode cX7_laysRectangle q.1 = .ok q.2)) = true := by decide +kernel
set_option maxRecDepth 100000 in
theorem m_dc151 : m_c151.all (fun q => decide (decode cX7_laysCloth q.1 = .ok q.2)) = true := by decide +kernel
set_option maxRecDepth 100000 in
theorem m_dc152 : m_c152.all (fun q => decide (decode cX7_isCloth q.1 = .ok q.2)) = true := by decide +kernel
set_option maxRecDepth 100000 in
theorem m_dc153 : m_c153.all (fun q => decide (decode cX7_piece q.1 = .ok q.2)) = true := by decide +kernel
set_option maxRecDepth 100000 in
theorem m_dc154 : m_c154.all (fun q => decide (decode cX7_good q.1 = .ok q.2)) = true := by decide +kernel
set_option maxRecDepth 100000 in
theorem m_dc155 : m_c155.all (fun q => decide (decode cX7_cut q.1 = .ok q.2)) = true := by decide +kernel
set_option maxRecDepth 100000 in
theorem m_dc156 : m_c156.all (fun q => decide (decode cX7_made q.1 = .ok q.2)) = true := by decide +kernel
set_option maxRecDepth 100000 in
theorem m_dc157 : m_c157.all (fun q => decide (decode cX7_keep q.1 = .ok q.2)) = true := by decide +kernel
set_option maxRecDepth 100000 in
theorem m_dc158 : m_c158.all (fun q => decide (decode cX7_back q.1 = .ok q.2)) = true := by decide +kernel
set_option maxRecDepth 100000 in
theorem m_dc159 : m_c159.all (fun q => decide (decode cX7_hues q.1 = .ok q.2)) = true := by decide +kernel
set_option maxRecDepth 100000 in
theorem m_dc160 : m_c160.all (fun q => decide (decode cX7_count q.1 = .ok q.2)) = true := by decide +kernel
set_option maxRecDepth 100000 in
theorem m_dc161 : m_c161.all (fun q => decide (decode cJ7_fill_53178 q.1 = .ok q.2)) = true := by decide +kernel
set_option maxRecDepth 100000 in
theorem m_dc162 : m_c162.all (fun q => decide (decode cJ6_bitCount_0f7a4 q.1 = .ok q.2)) = true := by decide +kernel
theorem m_dcs (y : Nat) : (m_cs.getD y []).all (fun q => decide (decode (m_by y) q.1 = .ok q.2)) = true := match y with
  | 0 => m_dc0
  | 1 => m_dc1
  | 2 => m_dc2
  | 3 => m_dc3
  | 4 => m_dc4
  | 5 => m_dc5
  | 6 => m_dc6
  | 7 => m_dc7
  | 8 => m_dc8
  | 9 => m_dc9
  | 10 => m_dc10
  | 11 => m_dc11
  | 12 => m_dc12
  | 13 => m_dc13
  | 14 => m_dc14
  | 15 => m_dc15
  | 16 => m_dc16
  | 17 => m_dc17
  | 18 => m_dc18
  | 19 => m_dc19
  | 20 => m_dc20
  | 21 => m_dc21
  | 22 => m_dc22
  | 23 => m_dc23
  | 24 => m_dc24
  | 25 => m_dc25
  | 26 => m_dc26
  | 27 => m_dc27
  | 28 => m_dc28
  | 29 => m_dc29
  | 30 => m_dc30
  | 31 => m_dc31
  | 32 => m_dc32
  | 33 => m_dc33
  | 34 => m_dc34
  | 35 => m_dc35
  | 36 => m_dc36
  | 37 => m_dc37
  | 38 => m_dc38
  | 39 => m_dc39
  | 40 => m_dc40
  | 41 => m_dc41
  | 42 => m_dc42
  | 43 => m_dc43
  | 44 => m_dc44
  | 45 => m_dc45
  | 46 => m_dc46
  | 47 => m_dc47
  | 48 => m_dc48
  | 49 => m_dc49
  | 50 => m_dc50
  | 51 => m_dc51
  | 52 => m_dc52
  | 53 => m_dc53
  | 54 => m_dc54
  | 55 => m_dc55
  | 56 => m_dc56
  | 57 => m_dc57
  | 58 => m_dc58
  | 59 => m_dc59
  | 60 => m_dc60
  | 61 => m_dc61
  | 62 => m_dc62
  | 63 => m_dc63
  | 64 => m_dc64
  | 65 => m_dc65
  | 66 => m_dc66
  | 67 => m_dc67
  | 68 => m_dc68
  | 69 => m_dc69
  | 70 => m_dc70
  | 71 => m_dc71
  | 72 => m_dc72
  | 73 => m_dc73
  | 74 => m_dc74
  | 75 => m_dc75
  | 76 => m_dc76
  | 77 => m_dc77
  | 78 => m_dc78
  | 79 => m_dc79
  | 80 => m_dc80
  | 81 => m_dc81
  | 82 => m_dc82
  | 83 => m_dc83
  | 84 => m_dc84
  | 85 => m_dc85
  | 86 => m_dc86
  | 87 => m_dc87
  | 88 => m_dc88
  | 89 => m_dc89
  | 90 => m_dc90
  | 91 => m_dc91
  | 92 => m_dc92
  | 93 => m_dc93
  | 94 => m_dc94
  | 95 => m_dc95
  | 96 => m_dc96
  | 97 => m_dc97
  | 98 => m_dc98
  | 99 => m_dc99
  | 100 => m_dc100
  | 101 => m_dc101
  | 102 => m_dc102
  | 103 => m_dc103
  | 104 => m_dc104
  | 105 => m_dc105
  | 106 => m_dc106
  | 107 => m_dc107
  | 108 => m_dc108
  | 109 => m_dc109
  | 110 => m_dc110
  | 111 => m_dc111
  | 112 => m_dc112
  | 113 => m_dc113
  | 114 => m_dc114
  | 115 => m_dc115
  | 116 => m_dc116
  | 117 => m_dc117
  | 118 => m_dc118
  | 119 => m_dc119
  | 120 => m_dc120
  | 121 => m_dc121
  | 122 => m_dc122
  | 123 => m_dc123
  | 124 => m_dc124
  | 125 => m_dc125
  | 126 => m_dc126
  | 127 => m_dc127
  | 128 => m_dc128
  | 129 => m_dc129
  | 130 => m_dc130
  | 131 => m_dc131
  | 132 => m_dc132
  | 133 => m_dc133
  | 134 => m_dc134
  | 135 => m_dc135
  | 136 => m_dc136
  | 137 => m_dc137
  | 138 => m_dc138
  | 139 => m_dc139
  | 140 => m_dc140
  | 141 => m_dc141
  | 142 => m_dc142
  | 143 => m_dc143
  | 144 => m_dc144
  | 145 => m_dc145
  | 146 => m_dc146
  | 147 => m_dc147
  | 148 => m_dc148
  | 149 => m_dc149
  | 150 => m_dc150
  | 151 => m_dc151
  | 152 => m_dc152
  | 153 => m_dc153
  | 154 => m_dc154
  | 155 => m_dc155
  | 156 => m_dc156
  | 157 => m_dc157
  | 158 => m_dc158
  | 159 => m_dc159
  | 160 => m_dc160
  | 161 => m_dc161
  | 162 => m_dc162
  | _ + 163 => rfl
theorem m_dec {y pc : Nat} {i : Instr} {len : Nat} (h : m_get y pc = some (i, len)) : decode (m_by y) pc = .ok (i, len) := by
  unfold m_get at h
  cases hf : (m_cs.getD y []).find? (fun q => q.1 == pc) with
  | none => rw [hf] at h; cases h
  | some q =>
    rw [hf] at h
    have h1 := List.all_eq_true.mp (m_dcs y) q (List.mem_of_find?_eq_some hf)
    have h2 : (q.1 == pc) = true := by simpa using List.find?_some hf
    have h3 : q.1 = pc := by simpa using h2
    have h4 : q.2 = (i, len) := Option.some.inj h
    have h5 : decode (m_by y) q.1 = .ok q.2 := of_decide_eq_true h1
    rw [h3, h4] at h5
    exact h5
end
section
/-! the words behind the tables, by their places -/
def m_C (ci : Nat) : vw_C := m_classes.getD ci ("", fun _ => ("", "", "", false), 0)
def m_ty (ci : Nat) : Nat → FieldType := [tyX0, tyX1, tyX2, tyX3, tyX4, tyX5, tyX6, tyX7].getD ci (fun _ => .int)
def m_tg (t : FieldType) : Nat := match t with
  | .int => 0
  | .boolean => 1
  | .object _ => 2
  | .array _ => 2
  | _ => 3
def m_at (i : Nat) (w : Cond) : Bool := decide (lw_tbl[i]? = some w) && goodWord w
theorem m_at_in {i : Nat} {w : Cond} (h : m_at i w = true) : w ∈ m_tbl := by
  unfold m_at at h
  rw [Bool.and_eq_true] at h
  exact m_tbl_at ⟨of_decide_eq_true h.1, h.2⟩
theorem m_C_get {ci : Nat} (h : ci < 8) : m_classes[ci]? = some (m_C ci) := by
  match ci, h with
  | 0, _ => rfl
  | 1, _ => rfl
  | 2, _ => rfl
  | 3, _ => rfl
  | 4, _ => rfl
  | 5, _ => rfl
  | 6, _ => rfl
  | 7, _ => rfl
theorem m_ty_ok {ci : Nat} (h : ci < 8) : ∀ k, k < (m_C ci).2.2 → parseFieldDescriptor ((m_C ci).2.1 k).2.2.1 = some (m_ty ci k) := by
  match ci, h with
  | 0, _ => exact tyX0_ok
  | 1, _ => exact tyX1_ok
  | 2, _ => exact tyX2_ok
  | 3, _ => exact tyX3_ok
  | 4, _ => exact tyX4_ok
  | 5, _ => exact tyX5_ok
  | 6, _ => exact tyX6_ok
  | 7, _ => exact tyX7_ok
theorem m_nm_ok {ci : Nat} (h : ci < 8) : ∀ a, a < (m_C ci).2.2 → ∀ b, b < (m_C ci).2.2 → a ≠ b → ((m_C ci).2.1 a).2.1 ≠ ((m_C ci).2.1 b).2.1 := by
  match ci, h with
  | 0, _ => exact nmX0
  | 1, _ => exact nmX1
  | 2, _ => exact nmX2
  | 3, _ => exact nmX3
  | 4, _ => exact nmX4
  | 5, _ => exact nmX5
  | 6, _ => exact nmX6
  | 7, _ => exact nmX7
set_option maxRecDepth 100000 in
theorem m_in_all : (List.range 8).all (fun ci => (u_ws (m_C ci).1 (m_C ci).2.1 (m_C ci).2.2).all (fun w => decide (w ∈ lw_tbl) && goodWord w)) = true := by decide +kernel
theorem m_in_ok {ci : Nat} (h : ci < 8) : ∀ w ∈ u_ws (m_C ci).1 (m_C ci).2.1 (m_C ci).2.2, w ∈ m_tbl := by
  intro w hw
  have h1 := List.all_eq_true.mp (List.all_eq_true.mp m_in_all ci (List.mem_range.mpr h)) w hw
  rw [Bool.and_eq_true] at h1
  exact List.mem_filter.mpr ⟨of_decide_eq_true h1.1, h1.2⟩
theorem m_tag_all : (List.range 8).all (fun ci => decide ((m_tagL ci).length = (m_C ci).2.2) && (List.range (m_C ci).2.2).all (fun k => decide ((m_tagL ci)[k]? = some (m_tg (m_ty ci k))) && decide (((m_C ci).2.1 k).1 = (m_C ci).1))) = true := by decide +kernel
theorem m_tag_len {ci : Nat} (h : ci < 8) : (m_tagL ci).length = (m_C ci).2.2 := by
  have h1 := List.all_eq_true.mp m_tag_all ci (List.mem_range.mpr h)
  rw [Bool.and_eq_true] at h1
  exact of_decide_eq_true h1.1
theorem m_tag_at {ci k : Nat} (h : ci < 8) (hk : k < (m_C ci).2.2) : (m_tagL ci)[k]? = some (m_tg (m_ty ci k)) ∧ ((m_C ci).2.1 k).1 = (m_C ci).1 := by
  have h1 := List.all_eq_true.mp m_tag_all ci (List.mem_range.mpr h)
  rw [Bool.and_eq_true] at h1
  have h2 := List.all_eq_true.mp h1.2 k (List.mem_range.mpr hk)
  rw [Bool.and_eq_true] at h2
  exact ⟨of_decide_eq_true h2.1, of_decide_eq_true h2.2⟩
def m_insP : List Nat := [261, 226, 189, 82, 114, 214, 74, 722]
def m_iniP : List Nat := [68, 67, 64, 62, 63, 66, 61, 69]
theorem m_ins_all : (List.range 8).all (fun ci => m_at (m_insP.getD ci 0) (.instantiable (m_C ci).1 (m_C ci).2.2) && m_at (m_iniP.getD ci 0) (.initialized (m_C ci).1)) = true := by decide +kernel
theorem m_ins_ok {ci : Nat} (h : ci < 8) : Cond.instantiable (m_C ci).1 (m_C ci).2.2 ∈ m_tbl ∧ Cond.initialized (m_C ci).1 ∈ m_tbl := by
  have h1 := List.all_eq_true.mp m_ins_all ci (List.mem_range.mpr h)
  rw [Bool.and_eq_true] at h1
  exact ⟨m_at_in h1.1, m_at_in h1.2⟩
theorem m_fls_all : m_fls.all (fun q => decide (q.2.2.1 < 8) && decide (q.2.2.2.1 < (m_C q.2.2.1).2.2) && m_at q.2.2.2.2 (.fieldLink (m_cR q.1) q.2.1 (m_C q.2.2.1).1 ((m_C q.2.2.1).2.1 q.2.2.2.1).2.1 ((m_C q.2.2.1).2.1 q.2.2.2.1).2.2.1)) = true := by decide +kernel
theorem m_fl_ok {o x ci k : Nat} (h : m_fl o x = some (ci, k)) : ci < 8 ∧ k < (m_C ci).2.2 ∧ Cond.fieldLink (m_cR o) x (m_C ci).1 ((m_C ci).2.1 k).2.1 ((m_C ci).2.1 k).2.2.1 ∈ m_tbl := by
  unfold m_fl at h
  cases hf : m_fls.find? (fun q => q.1 == o && q.2.1 == x) with
  | none => rw [hf] at h; cases h
  | some q =>
    rw [hf] at h
    have h1 := List.all_eq_true.mp m_fls_all q (List.mem_of_find?_eq_some hf)
    have h2 := List.find?_some hf
    obtain ⟨a, b, c2, d, f⟩ := q
    simp only [Bool.and_eq_true, beq_iff_eq, decide_eq_true_eq] at h1 h2
    obtain ⟨rfl, rfl⟩ := h2
    cases h
    exact ⟨h1.1.1, h1.1.2, m_at_in h1.2⟩
theorem m_cls_all : m_cls.all (fun q => decide (q.2.2.1 < 8) && m_at q.2.2.2 (.classLink (m_cR q.1) q.2.1 (m_C q.2.2.1).1)) = true := by decide +kernel
theorem m_cl_ok {o x ci : Nat} (h : m_cl o x = some ci) : ci < 8 ∧ Cond.classLink (m_cR o) x (m_C ci).1 ∈ m_tbl := by
  unfold m_cl at h
  cases hf : m_cls.find? (fun q => q.1 == o && q.2.1 == x) with
  | none => rw [hf] at h; cases h
  | some q =>
    rw [hf] at h
    have h1 := List.all_eq_true.mp m_cls_all q (List.mem_of_find?_eq_some hf)
    have h2 := List.find?_some hf
    obtain ⟨a, b, c2, d⟩ := q
    simp only [Bool.and_eq_true, beq_iff_eq, decide_eq_true_eq] at h1 h2
    obtain ⟨rfl, rfl⟩ := h2
    cases h
    exact ⟨h1.1, m_at_in h1.2⟩
theorem m_cns_all : m_cns.all (fun q => m_at q.2.2.2 (.constant (m_cR q.1) q.2.1 (Int32.ofInt q.2.2.1))) = true := by decide +kernel
theorem m_cn_ok {o x : Nat} {v : Int} (h : m_cn o x = some v) : Cond.constant (m_cR o) x (Int32.ofInt v) ∈ m_tbl := by
  unfold m_cn at h
  cases hf : m_cns.find? (fun q => q.1 == o && q.2.1 == x) with
  | none => rw [hf] at h; cases h
  | some q =>
    rw [hf] at h
    have h1 := List.all_eq_true.mp m_cns_all q (List.mem_of_find?_eq_some hf)
    have h2 := List.find?_some hf
    obtain ⟨a, b, c2, d⟩ := q
    simp only [Bool.and_eq_true, beq_iff_eq, decide_eq_true_eq] at h1 h2
    obtain ⟨rfl, rfl⟩ := h2
    cases h
    exact m_at_in h1
end
section
/-! the code words, by their places (printed by gen2.py) -/
set_option maxRecDepth 20000 in
theorem m_cw0 : lw_tbl[264]? = some (.code yX0_init cX0_init 1 (none)) := rfl
set_option maxRecDepth 20000 in
theorem m_cw1 : lw_tbl[682]? = some (.code yX0_at cX0_at 2 (some .int)) := rfl
set_option maxRecDepth 20000 in
theorem m_cw2 : lw_tbl[293]? = some (.code yX0_measure cX0_measure 2 (none)) := rfl
set_option maxRecDepth 20000 in
theorem m_cw3 : lw_tbl[675]? = some (.code yX0_know cX0_know 3 (none)) := rfl
set_option maxRecDepth 20000 in
theorem m_cw4 : lw_tbl[679]? = some (.code yX0_workOut cX0_workOut 6 (none)) := rfl
set_option maxRecDepth 20000 in
theorem m_cw5 : lw_tbl[692]? = some (.code yX0_tryCut cX0_tryCut 8 (none)) := rfl
set_option maxRecDepth 20000 in
theorem m_cw6 : lw_tbl[686]? = some (.code yX0_pieceLike cX0_pieceLike 6 (some .int)) := rfl
set_option maxRecDepth 20000 in
theorem m_cw7 : lw_tbl[229]? = some (.code yX1_init cX1_init 1 (none)) := rfl
set_option maxRecDepth 20000 in
theorem m_cw8 : lw_tbl[608]? = some (.code yX1_find cX1_find 7 (some .int)) := rfl
set_option maxRecDepth 20000 in
theorem m_cw9 : lw_tbl[624]? = some (.code yX1_giveFrom cX1_giveFrom 5 (none)) := rfl
set_option maxRecDepth 20000 in
theorem m_cw10 : lw_tbl[636]? = some (.code yX1_tryBlock cX1_tryBlock 6 (none)) := rfl
set_option maxRecDepth 20000 in
theorem m_cw11 : lw_tbl[616]? = some (.code yX1_roomInAll cX1_roomInAll 6 (some .int)) := rfl
set_option maxRecDepth 20000 in
theorem m_cw12 : lw_tbl[629]? = some (.code yX1_meetingEarlier cX1_meetingEarlier 6 (some .int)) := rfl
set_option maxRecDepth 20000 in
theorem m_cw13 : lw_tbl[192]? = some (.code yX2_init cX2_init 1 (none)) := rfl
set_option maxRecDepth 20000 in
theorem m_cw14 : lw_tbl[428]? = some (.code yX2_begin cX2_begin 2 (none)) := rfl
set_option maxRecDepth 20000 in
theorem m_cw15 : lw_tbl[505]? = some (.code yX2_become cX2_become 2 (none)) := rfl
set_option maxRecDepth 20000 in
theorem m_cw16 : lw_tbl[197]? = some (.code yX2_openAll cX2_openAll 1 (none)) := rfl
set_option maxRecDepth 20000 in
theorem m_cw17 : lw_tbl[474]? = some (.code yX2_isOpen cX2_isOpen 2 (some .boolean)) := rfl
set_option maxRecDepth 20000 in
theorem m_cw18 : lw_tbl[447]? = some (.code yX2_leftOf cX2_leftOf 4 (some .int)) := rfl
set_option maxRecDepth 20000 in
theorem m_cw19 : lw_tbl[497]? = some (.code yX2_squaresOfHue cX2_squaresOfHue 6 (some .int)) := rfl
set_option maxRecDepth 20000 in
theorem m_cw20 : lw_tbl[85]? = some (.code yX3_init cX3_init 1 (none)) := rfl
set_option maxRecDepth 20000 in
theorem m_cw21 : lw_tbl[358]? = some (.code yX3_readInto cX3_readInto 6 (some .int)) := rfl
set_option maxRecDepth 20000 in
theorem m_cw22 : lw_tbl[362]? = some (.code yX3_startAnew cX3_startAnew 2 (none)) := rfl
set_option maxRecDepth 20000 in
theorem m_cw23 : lw_tbl[384]? = some (.code yX3_readItem cX3_readItem 7 (some .boolean)) := rfl
set_option maxRecDepth 20000 in
theorem m_cw24 : lw_tbl[388]? = some (.code yX3_mayStart cX3_mayStart 4 (some .boolean)) := rfl
set_option maxRecDepth 20000 in
theorem m_cw25 : lw_tbl[391]? = some (.code yX3_numbersOf cX3_numbersOf 1 (some .int)) := rfl
set_option maxRecDepth 20000 in
theorem m_cw26 : lw_tbl[396]? = some (.code yX3_lowestOf cX3_lowestOf 1 (some .int)) := rfl
set_option maxRecDepth 20000 in
theorem m_cw27 : lw_tbl[399]? = some (.code yX3_highestOf cX3_highestOf 2 (some .int)) := rfl
set_option maxRecDepth 20000 in
theorem m_cw28 : lw_tbl[403]? = some (.code yX3_put cX3_put 5 (none)) := rfl
set_option maxRecDepth 20000 in
theorem m_cw29 : lw_tbl[407]? = some (.code yX3_putKind cX3_putKind 4 (none)) := rfl
set_option maxRecDepth 20000 in
theorem m_cw30 : lw_tbl[370]? = some (.code yX3_readToken cX3_readToken 4 (none)) := rfl
set_option maxRecDepth 20000 in
theorem m_cw31 : lw_tbl[377]? = some (.code yX3_readNumber cX3_readNumber 4 (none)) := rfl
set_option maxRecDepth 20000 in
theorem m_cw32 : lw_tbl[373]? = some (.code yX3_isFigure cX3_isFigure 1 (some .boolean)) := rfl
set_option maxRecDepth 20000 in
theorem m_cw33 : lw_tbl[380]? = some (.code yX3_isSign cX3_isSign 1 (some .boolean)) := rfl
set_option maxRecDepth 20000 in
theorem m_cw34 : lw_tbl[117]? = some (.code yX4_init cX4_init 1 (none)) := rfl
set_option maxRecDepth 20000 in
theorem m_cw35 : lw_tbl[122]? = some (.code yX4_startAnew cX4_startAnew 1 (none)) := rfl
set_option maxRecDepth 20000 in
theorem m_cw36 : lw_tbl[469]? = some (.code yX4_squares cX4_squares 1 (some .int)) := rfl
set_option maxRecDepth 20000 in
theorem m_cw37 : lw_tbl[424]? = some (.code yX4_edgeOf cX4_edgeOf 4 (some .int)) := rfl
set_option maxRecDepth 20000 in
theorem m_cw38 : lw_tbl[416]? = some (.code yX4_isPlain cX4_isPlain 3 (some .boolean)) := rfl
set_option maxRecDepth 20000 in
theorem m_cw39 : lw_tbl[420]? = some (.code yX4_looksLike cX4_looksLike 4 (some .boolean)) := rfl
set_option maxRecDepth 20000 in
theorem m_cw40 : lw_tbl[411]? = some (.code yX4_settleBlocks cX4_settleBlocks 3 (none)) := rfl
set_option maxRecDepth 20000 in
theorem m_cw41 : lw_tbl[557]? = some (.code yX4_plainWith cX4_plainWith 3 (some .int)) := rfl
set_option maxRecDepth 20000 in
theorem m_cw42 : lw_tbl[486]? = some (.code yX4_beside cX4_beside 5 (some .int)) := rfl
set_option maxRecDepth 20000 in
theorem m_cw43 : lw_tbl[592]? = some (.code yX4_isFirstOfHue cX4_isFirstOfHue 3 (some .boolean)) := rfl
set_option maxRecDepth 20000 in
theorem m_cw44 : lw_tbl[720]? = some (.code yX4_hueCount cX4_hueCount 3 (some .int)) := rfl
set_option maxRecDepth 20000 in
theorem m_cw45 : lw_tbl[588]? = some (.code yX4_hueAt cX4_hueAt 4 (some .int)) := rfl
set_option maxRecDepth 20000 in
theorem m_cw46 : lw_tbl[596]? = some (.code yX4_kindsOfHue cX4_kindsOfHue 4 (some .int)) := rfl
set_option maxRecDepth 20000 in
theorem m_cw47 : lw_tbl[217]? = some (.code yX5_init cX5_init 1 (none)) := rfl
set_option maxRecDepth 20000 in
theorem m_cw48 : lw_tbl[543]? = some (.code yX5_begin cX5_begin 6 (none)) := rfl
set_option maxRecDepth 20000 in
theorem m_cw49 : lw_tbl[564]? = some (.code yX5_settle cX5_settle 7 (none)) := rfl
set_option maxRecDepth 20000 in
theorem m_cw50 : lw_tbl[546]? = some (.code yX5_blocksToHave cX5_blocksToHave 4 (some .int)) := rfl
set_option maxRecDepth 20000 in
theorem m_cw51 : lw_tbl[553]? = some (.code yX5_meetingAround cX5_meetingAround 6 (some .int)) := rfl
set_option maxRecDepth 20000 in
theorem m_cw52 : lw_tbl[568]? = some (.code yX5_supported cX5_supported 7 (some .int)) := rfl
set_option maxRecDepth 20000 in
theorem m_cw53 : lw_tbl[571]? = some (.code yX5_meetingOneOf cX5_meetingOneOf 5 (some .int)) := rfl
set_option maxRecDepth 20000 in
theorem m_cw54 : lw_tbl[77]? = some (.code yX6_init cX6_init 2 (none)) := rfl
set_option maxRecDepth 20000 in
theorem m_cw55 : lw_tbl[346]? = some (.code yX6_type cX6_type 2 (some .int)) := rfl
set_option maxRecDepth 20000 in
theorem m_cw56 : lw_tbl[350]? = some (.code yX6_clear cX6_clear 2 (some .int)) := rfl
set_option maxRecDepth 20000 in
theorem m_cw57 : lw_tbl[354]? = some (.code yX6_tells cX6_tells 3 (some .int)) := rfl
set_option maxRecDepth 20000 in
theorem m_cw58 : lw_tbl[439]? = some (.code yX6_kind cX6_kind 3 (some .int)) := rfl
set_option maxRecDepth 20000 in
theorem m_cw59 : lw_tbl[452]? = some (.code yX6_block cX6_block 3 (some .int)) := rfl
set_option maxRecDepth 20000 in
theorem m_cw60 : lw_tbl[461]? = some (.code yX6_lays cX6_lays 4 (some .int)) := rfl
set_option maxRecDepth 20000 in
theorem m_cw61 : lw_tbl[514]? = some (.code yX6_takes cX6_takes 3 (some .int)) := rfl
set_option maxRecDepth 20000 in
theorem m_cw62 : lw_tbl[518]? = some (.code yX6_buys cX6_buys 4 (some .int)) := rfl
set_option maxRecDepth 20000 in
theorem m_cw63 : lw_tbl[522]? = some (.code yX6_clears cX6_clears 2 (some .int)) := rfl
set_option maxRecDepth 20000 in
theorem m_cw64 : lw_tbl[527]? = some (.code yX6_undo cX6_undo 1 (some .int)) := rfl
set_option maxRecDepth 20000 in
theorem m_cw65 : lw_tbl[531]? = some (.code yX6_square cX6_square 2 (some .int)) := rfl
set_option maxRecDepth 20000 in
theorem m_cw66 : lw_tbl[535]? = some (.code yX6_fits cX6_fits 3 (some .int)) := rfl
set_option maxRecDepth 20000 in
theorem m_cw67 : lw_tbl[539]? = some (.code yX6_left cX6_left 4 (some .int)) := rfl
set_option maxRecDepth 20000 in
theorem m_cw68 : lw_tbl[584]? = some (.code yX6_hue cX6_hue 4 (some .int)) := rfl
set_option maxRecDepth 20000 in
theorem m_cw69 : lw_tbl[600]? = some (.code yX6_many cX6_many 2 (some .int)) := rfl
set_option maxRecDepth 20000 in
theorem m_cw70 : lw_tbl[640]? = some (.code yX6_quilt cX6_quilt 3 (some .int)) := rfl
set_option maxRecDepth 20000 in
theorem m_cw71 : lw_tbl[644]? = some (.code yX6_sure cX6_sure 3 (some .int)) := rfl
set_option maxRecDepth 20000 in
theorem m_cw72 : lw_tbl[653]? = some (.code yX6_next cX6_next 5 (some .int)) := rfl
set_option maxRecDepth 20000 in
theorem m_cw73 : lw_tbl[657]? = some (.code yX6_wanting cX6_wanting 3 (some .int)) := rfl
set_option maxRecDepth 20000 in
theorem m_cw74 : lw_tbl[661]? = some (.code yX6_piece cX6_piece 3 (some .int)) := rfl
set_option maxRecDepth 20000 in
theorem m_cw75 : lw_tbl[668]? = some (.code yX6_good cX6_good 3 (some .int)) := rfl
set_option maxRecDepth 20000 in
theorem m_cw76 : lw_tbl[697]? = some (.code yX6_cut cX6_cut 3 (some .int)) := rfl
set_option maxRecDepth 20000 in
theorem m_cw77 : lw_tbl[701]? = some (.code yX6_made cX6_made 4 (some .int)) := rfl
set_option maxRecDepth 20000 in
theorem m_cw78 : lw_tbl[705]? = some (.code yX6_keep cX6_keep 2 (some .int)) := rfl
set_option maxRecDepth 20000 in
theorem m_cw79 : lw_tbl[712]? = some (.code yX6_back cX6_back 2 (some .int)) := rfl
set_option maxRecDepth 20000 in
theorem m_cw80 : lw_tbl[716]? = some (.code yX6_count cX6_count 2 (some .int)) := rfl
set_option maxRecDepth 20000 in
theorem m_cw81 : lw_tbl[443]? = some (.code yX6_isKind cX6_isKind 2 (some .boolean)) := rfl
set_option maxRecDepth 20000 in
theorem m_cw82 : lw_tbl[456]? = some (.code yX6_isBlock cX6_isBlock 2 (some .boolean)) := rfl
set_option maxRecDepth 20000 in
theorem m_cw83 : lw_tbl[465]? = some (.code yX6_isSquare cX6_isSquare 2 (some .boolean)) := rfl
set_option maxRecDepth 20000 in
theorem m_cw84 : lw_tbl[664]? = some (.code yX6_isPiece cX6_isPiece 1 (some .boolean)) := rfl
set_option maxRecDepth 20000 in
theorem m_cw85 : lw_tbl[671]? = some (.code yX6_isRectangle cX6_isRectangle 2 (some .boolean)) := rfl
set_option maxRecDepth 20000 in
theorem m_cw86 : lw_tbl[708]? = some (.code yX6_isImage cX6_isImage 1 (some .boolean)) := rfl
set_option maxRecDepth 20000 in
theorem m_cw87 : lw_tbl[510]? = some (.code yX6_openSquares cX6_openSquares 3 (some .int)) := rfl
set_option maxRecDepth 20000 in
theorem m_cw88 : lw_tbl[435]? = some (.code yX6_forgetImages cX6_forgetImages 2 (none)) := rfl
set_option maxRecDepth 20000 in
theorem m_cw89 : lw_tbl[501]? = some (.code yX6_remember cX6_remember 1 (none)) := rfl
set_option maxRecDepth 20000 in
theorem m_cw90 : lw_tbl[478]? = some (.code yX6_whyNot cX6_whyNot 4 (some .int)) := rfl
set_option maxRecDepth 20000 in
theorem m_cw91 : lw_tbl[482]? = some (.code yX6_meetsNeighbours cX6_meetsNeighbours 5 (some .boolean)) := rfl
set_option maxRecDepth 20000 in
theorem m_cw92 : lw_tbl[493]? = some (.code yX6_keepsRim cX6_keepsRim 4 (some .boolean)) := rfl
set_option maxRecDepth 20000 in
theorem m_cw93 : lw_tbl[604]? = some (.code yX6_quiltsOf cX6_quiltsOf 3 (some .int)) := rfl
set_option maxRecDepth 20000 in
theorem m_cw94 : lw_tbl[649]? = some (.code yX6_sameWithAnotherAt cX6_sameWithAnotherAt 5 (some .int)) := rfl
set_option maxRecDepth 20000 in
theorem m_cw95 : lw_tbl[580]? = some (.code yX6_bitAt cX6_bitAt 4 (some .int)) := rfl
set_option maxRecDepth 20000 in
theorem m_cw96 : lw_tbl[489]? = some (.code yX6_opposite cX6_opposite 1 (some .int)) := rfl
set_option maxRecDepth 20000 in
theorem m_cw97 : lw_tbl[832]? = some (.code yX7_in cX7_in 3 (some .boolean)) := rfl
set_option maxRecDepth 20000 in
theorem m_cw98 : lw_tbl[725]? = some (.code yX7_init cX7_init 1 (none)) := rfl
set_option maxRecDepth 20000 in
theorem m_cw99 : lw_tbl[730]? = some (.code yX7_begins cX7_begins 1 (none)) := rfl
set_option maxRecDepth 20000 in
theorem m_cw100 : lw_tbl[734]? = some (.code yX7_becomes cX7_becomes 2 (none)) := rfl
set_option maxRecDepth 20000 in
theorem m_cw101 : lw_tbl[829]? = some (.code yX7_type cX7_type 2 (some .int)) := rfl
set_option maxRecDepth 20000 in
theorem m_cw102 : lw_tbl[836]? = some (.code yX7_clear cX7_clear 2 (some .int)) := rfl
set_option maxRecDepth 20000 in
theorem m_cw103 : lw_tbl[844]? = some (.code yX7_here cX7_here 1 (some .int)) := rfl
set_option maxRecDepth 20000 in
theorem m_cw104 : lw_tbl[856]? = some (.code yX7_reads cX7_reads 7 (some .boolean)) := rfl
set_option maxRecDepth 20000 in
theorem m_cw105 : lw_tbl[852]? = some (.code yX7_readsKind cX7_readsKind 2 (some .boolean)) := rfl
set_option maxRecDepth 20000 in
theorem m_cw106 : lw_tbl[860]? = some (.code yX7_readsOnce cX7_readsOnce 7 (some .boolean)) := rfl
set_option maxRecDepth 20000 in
theorem m_cw107 : lw_tbl[848]? = some (.code yX7_item cX7_item 1 (some .boolean)) := rfl
set_option maxRecDepth 20000 in
theorem m_cw108 : lw_tbl[840]? = some (.code yX7_tells cX7_tells 2 (some .int)) := rfl
set_option maxRecDepth 20000 in
theorem m_cw109 : lw_tbl[868]? = some (.code yX7_isKind cX7_isKind 2 (some .boolean)) := rfl
set_option maxRecDepth 20000 in
theorem m_cw110 : lw_tbl[884]? = some (.code yX7_isBlock cX7_isBlock 2 (some .boolean)) := rfl
set_option maxRecDepth 20000 in
theorem m_cw111 : lw_tbl[904]? = some (.code yX7_squares cX7_squares 1 (some .int)) := rfl
set_option maxRecDepth 20000 in
theorem m_cw112 : lw_tbl[900]? = some (.code yX7_isSquare cX7_isSquare 2 (some .boolean)) := rfl
set_option maxRecDepth 20000 in
theorem m_cw113 : lw_tbl[888]? = some (.code yX7_edge cX7_edge 3 (some .int)) := rfl
set_option maxRecDepth 20000 in
theorem m_cw114 : lw_tbl[892]? = some (.code yX7_isPlain cX7_isPlain 5 (some .boolean)) := rfl
set_option maxRecDepth 20000 in
theorem m_cw115 : lw_tbl[916]? = some (.code yX7_hueOf cX7_hueOf 2 (some .int)) := rfl
set_option maxRecDepth 20000 in
theorem m_cw116 : lw_tbl[872]? = some (.code yX7_tries cX7_tries 2 (none)) := rfl
set_option maxRecDepth 20000 in
theorem m_cw117 : lw_tbl[876]? = some (.code yX7_leftOf cX7_leftOf 4 (some .int)) := rfl
set_option maxRecDepth 20000 in
theorem m_cw118 : lw_tbl[920]? = some (.code yX7_ofHue cX7_ofHue 4 (some .int)) := rfl
set_option maxRecDepth 20000 in
theorem m_cw119 : lw_tbl[912]? = some (.code yX7_beside cX7_beside 5 (some .int)) := rfl
set_option maxRecDepth 20000 in
theorem m_cw120 : lw_tbl[908]? = some (.code yX7_whyNot cX7_whyNot 6 (some .int)) := rfl
set_option maxRecDepth 20000 in
theorem m_cw121 : lw_tbl[864]? = some (.code yX7_kind cX7_kind 3 (some .int)) := rfl
set_option maxRecDepth 20000 in
theorem m_cw122 : lw_tbl[880]? = some (.code yX7_block cX7_block 3 (some .int)) := rfl
set_option maxRecDepth 20000 in
theorem m_cw123 : lw_tbl[928]? = some (.code yX7_open cX7_open 3 (some .int)) := rfl
set_option maxRecDepth 20000 in
theorem m_cw124 : lw_tbl[924]? = some (.code yX7_notes cX7_notes 2 (none)) := rfl
set_option maxRecDepth 20000 in
theorem m_cw125 : lw_tbl[896]? = some (.code yX7_lays cX7_lays 4 (some .int)) := rfl
set_option maxRecDepth 20000 in
theorem m_cw126 : lw_tbl[932]? = some (.code yX7_takes cX7_takes 3 (some .int)) := rfl
set_option maxRecDepth 20000 in
theorem m_cw127 : lw_tbl[936]? = some (.code yX7_buys cX7_buys 4 (some .int)) := rfl
set_option maxRecDepth 20000 in
theorem m_cw128 : lw_tbl[940]? = some (.code yX7_clears cX7_clears 3 (some .int)) := rfl
set_option maxRecDepth 20000 in
theorem m_cw129 : lw_tbl[944]? = some (.code yX7_undo cX7_undo 2 (some .int)) := rfl
set_option maxRecDepth 20000 in
theorem m_cw130 : lw_tbl[948]? = some (.code yX7_square cX7_square 2 (some .int)) := rfl
set_option maxRecDepth 20000 in
theorem m_cw131 : lw_tbl[952]? = some (.code yX7_fits cX7_fits 3 (some .int)) := rfl
set_option maxRecDepth 20000 in
theorem m_cw132 : lw_tbl[968]? = some (.code yX7_has cX7_has 6 (some .boolean)) := rfl
set_option maxRecDepth 20000 in
theorem m_cw133 : lw_tbl[964]? = some (.code yX7_stays cX7_stays 6 (some .boolean)) := rfl
set_option maxRecDepth 20000 in
theorem m_cw134 : lw_tbl[960]? = some (.code yX7_winnows cX7_winnows 4 (none)) := rfl
set_option maxRecDepth 20000 in
theorem m_cw135 : lw_tbl[971]? = some (.code yX7_ones cX7_ones 3 (some .int)) := rfl
set_option maxRecDepth 20000 in
theorem m_cw136 : lw_tbl[956]? = some (.code yX7_left cX7_left 5 (some .int)) := rfl
set_option maxRecDepth 20000 in
theorem m_cw137 : lw_tbl[979]? = some (.code yX7_hueAt cX7_hueAt 6 (some .int)) := rfl
set_option maxRecDepth 20000 in
theorem m_cw138 : lw_tbl[975]? = some (.code yX7_hue cX7_hue 6 (some .int)) := rfl
set_option maxRecDepth 20000 in
theorem m_cw139 : lw_tbl[987]? = some (.code yX7_startsQuilts cX7_startsQuilts 2 (none)) := rfl
set_option maxRecDepth 20000 in
theorem m_cw140 : lw_tbl[995]? = some (.code yX7_canBe cX7_canBe 3 (some .boolean)) := rfl
set_option maxRecDepth 20000 in
theorem m_cw141 : lw_tbl[991]? = some (.code yX7_nextQuilt cX7_nextQuilt 3 (some .boolean)) := rfl
set_option maxRecDepth 20000 in
theorem m_cw142 : lw_tbl[983]? = some (.code yX7_many cX7_many 3 (some .int)) := rfl
set_option maxRecDepth 20000 in
theorem m_cw143 : lw_tbl[999]? = some (.code yX7_quilt cX7_quilt 4 (some .int)) := rfl
set_option maxRecDepth 20000 in
theorem m_cw144 : lw_tbl[1003]? = some (.code yX7_sure cX7_sure 3 (some .int)) := rfl
set_option maxRecDepth 20000 in
theorem m_cw145 : lw_tbl[1007]? = some (.code yX7_next cX7_next 3 (some .int)) := rfl
set_option maxRecDepth 20000 in
theorem m_cw146 : lw_tbl[1011]? = some (.code yX7_wanting cX7_wanting 3 (some .int)) := rfl
set_option maxRecDepth 20000 in
theorem m_cw147 : lw_tbl[1019]? = some (.code yX7_side cX7_side 6 (some .int)) := rfl
set_option maxRecDepth 20000 in
theorem m_cw148 : lw_tbl[1038]? = some (.code yX7_pieceOf cX7_pieceOf 6 (some .int)) := rfl
set_option maxRecDepth 20000 in
theorem m_cw149 : lw_tbl[1042]? = some (.code yX7_laysCut cX7_laysCut 7 (none)) := rfl
set_option maxRecDepth 20000 in
theorem m_cw150 : lw_tbl[1034]? = some (.code yX7_laysRectangle cX7_laysRectangle 6 (none)) := rfl
set_option maxRecDepth 20000 in
theorem m_cw151 : lw_tbl[1030]? = some (.code yX7_laysCloth cX7_laysCloth 3 (none)) := rfl
set_option maxRecDepth 20000 in
theorem m_cw152 : lw_tbl[1026]? = some (.code yX7_isCloth cX7_isCloth 2 (some .boolean)) := rfl
set_option maxRecDepth 20000 in
theorem m_cw153 : lw_tbl[1015]? = some (.code yX7_piece cX7_piece 3 (some .int)) := rfl
set_option maxRecDepth 20000 in
theorem m_cw154 : lw_tbl[1023]? = some (.code yX7_good cX7_good 3 (some .int)) := rfl
set_option maxRecDepth 20000 in
theorem m_cw155 : lw_tbl[1046]? = some (.code yX7_cut cX7_cut 3 (some .int)) := rfl
set_option maxRecDepth 20000 in
theorem m_cw156 : lw_tbl[1050]? = some (.code yX7_made cX7_made 4 (some .int)) := rfl
set_option maxRecDepth 20000 in
theorem m_cw157 : lw_tbl[1054]? = some (.code yX7_keep cX7_keep 3 (some .int)) := rfl
set_option maxRecDepth 20000 in
theorem m_cw158 : lw_tbl[1058]? = some (.code yX7_back cX7_back 3 (some .int)) := rfl
set_option maxRecDepth 20000 in
theorem m_cw159 : lw_tbl[1066]? = some (.code yX7_hues cX7_hues 2 (some .int)) := rfl
set_option maxRecDepth 20000 in
theorem m_cw160 : lw_tbl[1062]? = some (.code yX7_count cX7_count 2 (some .int)) := rfl
set_option maxRecDepth 20000 in
theorem m_cw161 : lw_tbl[200]? = some (.code yJ7_fill_53178 cJ7_fill_53178 4 (none)) := rfl
set_option maxRecDepth 20000 in
theorem m_cw162 : lw_tbl[574]? = some (.code yJ6_bitCount_0f7a4 cJ6_bitCount_0f7a4 1 (some .int)) := rfl
theorem m_cws (y : Nat) (h : y < 163) : lw_tbl[(m_md y).2.2.2.2.2.2]? = some (.code (m_nm y) (m_by y) (m_mx y) (m_rt y)) := match y, h with
  | 0, _ => m_cw0
  | 1, _ => m_cw1
  | 2, _ => m_cw2
  | 3, _ => m_cw3
  | 4, _ => m_cw4
  | 5, _ => m_cw5
  | 6, _ => m_cw6
  | 7, _ => m_cw7
  | 8, _ => m_cw8
  | 9, _ => m_cw9
  | 10, _ => m_cw10
  | 11, _ => m_cw11
  | 12, _ => m_cw12
  | 13, _ => m_cw13
  | 14, _ => m_cw14
  | 15, _ => m_cw15
  | 16, _ => m_cw16
  | 17, _ => m_cw17
  | 18, _ => m_cw18
  | 19, _ => m_cw19
  | 20, _ => m_cw20
  | 21, _ => m_cw21
  | 22, _ => m_cw22
  | 23, _ => m_cw23
  | 24, _ => m_cw24
  | 25, _ => m_cw25
  | 26, _ => m_cw26
  | 27, _ => m_cw27
  | 28, _ => m_cw28
  | 29, _ => m_cw29
  | 30, _ => m_cw30
  | 31, _ => m_cw31
  | 32, _ => m_cw32
  | 33, _ => m_cw33
  | 34, _ => m_cw34
  | 35, _ => m_cw35
  | 36, _ => m_cw36
  | 37, _ => m_cw37
  | 38, _ => m_cw38
  | 39, _ => m_cw39
  | 40, _ => m_cw40
  | 41, _ => m_cw41
  | 42, _ => m_cw42
  | 43, _ => m_cw43
  | 44, _ => m_cw44
  | 45, _ => m_cw45
  | 46, _ => m_cw46
  | 47, _ => m_cw47
  | 48, _ => m_cw48
  | 49, _ => m_cw49
  | 50, _ => m_cw50
  | 51, _ => m_cw51
  | 52, _ => m_cw52
  | 53, _ => m_cw53
  | 54, _ => m_cw54
  | 55, _ => m_cw55
  | 56, _ => m_cw56
  | 57, _ => m_cw57
  | 58, _ => m_cw58
  | 59, _ => m_cw59
  | 60, _ => m_cw60
  | 61, _ => m_cw61
  | 62, _ => m_cw62
  | 63, _ => m_cw63
  | 64, _ => m_cw64
  | 65, _ => m_cw65
  | 66, _ => m_cw66
  | 67, _ => m_cw67
  | 68, _ => m_cw68
  | 69, _ => m_cw69
  | 70, _ => m_cw70
  | 71, _ => m_cw71
  | 72, _ => m_cw72
  | 73, _ => m_cw73
  | 74, _ => m_cw74
  | 75, _ => m_cw75
  | 76, _ => m_cw76
  | 77, _ => m_cw77
  | 78, _ => m_cw78
  | 79, _ => m_cw79
  | 80, _ => m_cw80
  | 81, _ => m_cw81
  | 82, _ => m_cw82
  | 83, _ => m_cw83
  | 84, _ => m_cw84
  | 85, _ => m_cw85
  | 86, _ => m_cw86
  | 87, _ => m_cw87
  | 88, _ => m_cw88
  | 89, _ => m_cw89
  | 90, _ => m_cw90
  | 91, _ => m_cw91
  | 92, _ => m_cw92
  | 93, _ => m_cw93
  | 94, _ => m_cw94
  | 95, _ => m_cw95
  | 96, _ => m_cw96
  | 97, _ => m_cw97
  | 98, _ => m_cw98
  | 99, _ => m_cw99
  | 100, _ => m_cw100
  | 101, _ => m_cw101
  | 102, _ => m_cw102
  | 103, _ => m_cw103
  | 104, _ => m_cw104
  | 105, _ => m_cw105
  | 106, _ => m_cw106
  | 107, _ => m_cw107
  | 108, _ => m_cw108
  | 109, _ => m_cw109
  | 110, _ => m_cw110
  | 111, _ => m_cw111
  | 112, _ => m_cw112
  | 113, _ => m_cw113
  | 114, _ => m_cw114
  | 115, _ => m_cw115
  | 116, _ => m_cw116
  | 117, _ => m_cw117
  | 118, _ => m_cw118
  | 119, _ => m_cw119
  | 120, _ => m_cw120
  | 121, _ => m_cw121
  | 122, _ => m_cw122
  | 123, _ => m_cw123
  | 124, _ => m_cw124
  | 125, _ => m_cw125
  | 126, _ => m_cw126
  | 127, _ => m_cw127
  | 128, _ => m_cw128
  | 129, _ => m_cw129
  | 130, _ => m_cw130
  | 131, _ => m_cw131
  | 132, _ => m_cw132
  | 133, _ => m_cw133
  | 134, _ => m_cw134
  | 135, _ => m_cw135
  | 136, _ => m_cw136
  | 137, _ => m_cw137
  | 138, _ => m_cw138
  | 139, _ => m_cw139
  | 140, _ => m_cw140
  | 141, _ => m_cw141
  | 142, _ => m_cw142
  | 143, _ => m_cw143
  | 144, _ => m_cw144
  | 145, _ => m_cw145
  | 146, _ => m_cw146
  | 147, _ => m_cw147
  | 148, _ => m_cw148
  | 149, _ => m_cw149
  | 150, _ => m_cw150
  | 151, _ => m_cw151
  | 152, _ => m_cw152
  | 153, _ => m_cw153
  | 154, _ => m_cw154
  | 155, _ => m_cw155
  | 156, _ => m_cw156
  | 157, _ => m_cw157
  | 158, _ => m_cw158
  | 159, _ => m_cw159
  | 160, _ => m_cw160
  | 161, _ => m_cw161
  | 162, _ => m_cw162
  | n + 163, h => absurd h (by omega)
end
section
/-- what is said of every method -/
def m_mok (q : Nat × MethodName × ByteArray × Nat × Option FieldType × Nat × Nat) : Bool :=
  goodWord (.code q.2.1 q.2.2.1 q.2.2.2.1 q.2.2.2.2.1) && plainName q.2.1.cls && decide (q.2.2.2.1 ≤ 40) && decide (q.2.2.2.2.2.1 ≤ q.2.2.2.1) && decide (q.2.1.cls = m_cR q.1)
    && (decide (q.2.2.2.2.1 = none) || decide (q.2.2.2.2.1 = some .int) || decide (q.2.2.2.2.1 = some .boolean)) && decide (q.2.1.cls ≠ "java/lang/invoke/MethodHandle") && decide (q.2.1.cls ≠ "java/lang/invoke/VarHandle")
set_option maxRecDepth 100000 in
theorem m_ms_all : m_ms.all m_mok = true := by decide +kernel
theorem m_mok_at {y : Nat} (h : y < 163) : m_mok (m_md y) = true := by
  have hl : m_ms.length = 163 := rfl
  have h1 : m_ms[y]? = some (m_ms[y]'(by rw [hl]; exact h)) := List.getElem?_eq_getElem _
  have h2 : m_md y = m_ms[y]'(by rw [hl]; exact h) := by
    unfold m_md
    rw [List.getD_eq_getElem?_getD, h1]
    rfl
  rw [h2]
  exact List.all_eq_true.mp m_ms_all _ (List.getElem_mem _)
theorem m_code_in {y : Nat} (h : y < 163) : Cond.code (m_nm y) (m_by y) (m_mx y) (m_rt y) ∈ m_tbl := by
  have h1 := m_mok_at h
  simp only [m_mok, Bool.and_eq_true] at h1
  exact m_tbl_at ⟨m_cws y h, h1.1.1.1.1.1.1.1⟩
/-- what is said of every call -/
def m_lok (q : Nat × Nat × Nat × Nat × Nat × Nat × Nat × Nat) : Bool :=
  match q.2.2.1 with
  | 0 => decide (q.2.2.2.1 < 163) && m_at q.2.2.2.2.1 (.methodLink (m_cR q.1) q.2.1 (m_nm q.2.2.2.1)) && m_at q.2.2.2.2.2.1 (.instanceMethod (m_nm q.2.2.2.1)) && m_at q.2.2.2.2.2.2.1 (.selects (m_nm q.2.2.2.1).cls (m_nm q.2.2.2.1) (m_nm q.2.2.2.1)) && m_at q.2.2.2.2.2.2.2 (.initialized (m_nm q.2.2.2.1).cls)
      && decide ((parseMethodDescriptor (m_nm q.2.2.2.1).desc).map (fun d => d.parameters.length + 1) = some (m_na q.2.2.2.1)) && decide (m_own q.2.2.2.1 < 8) && !(m_prim q.2.2.2.1)
  | 1 => decide (q.2.2.2.1 < 163) && m_at q.2.2.2.2.1 (.methodLink (m_cR q.1) q.2.1 (m_nm q.2.2.2.1)) && m_at q.2.2.2.2.2.1 (.static (m_nm q.2.2.2.1)) && m_at q.2.2.2.2.2.2.2 (.initialized (m_nm q.2.2.2.1).cls)
      && decide ((parseMethodDescriptor (m_nm q.2.2.2.1).desc).map (fun d => d.parameters.length) = some (m_na q.2.2.2.1))
  | 2 => decide (q.2.2.2.1 < 163) && m_at q.2.2.2.2.1 (.methodLink (m_cR q.1) q.2.1 (m_nm q.2.2.2.1)) && m_at q.2.2.2.2.2.1 (.instanceMethod (m_nm q.2.2.2.1)) && m_at q.2.2.2.2.2.2.2 (.initialized (m_nm q.2.2.2.1).cls)
      && decide ((parseMethodDescriptor (m_nm q.2.2.2.1).desc).map (fun d => d.parameters.length + 1) = some (m_na q.2.2.2.1)) && decide ((m_nm q.2.2.2.1).name = "<init>") && decide (m_rt q.2.2.2.1 = none) && !(m_prim q.2.2.2.1)
  | 3 => decide (q.2.2.2.1 < 163) && decide (lw_tbl[q.2.2.2.2.1]? = some (.methodLinkNest (m_cR q.1) q.2.1 (m_nm q.2.2.2.1) "QuiltPatches")) && m_at q.2.2.2.2.2.1 (.static (m_nm q.2.2.2.1)) && m_at q.2.2.2.2.2.2.2 (.initialized (m_nm q.2.2.2.1).cls)
      && decide ((parseMethodDescriptor (m_nm q.2.2.2.1).desc).map (fun d => d.parameters.length) = some (m_na q.2.2.2.1))
  | 4 => decide (q.2.2.2.1 < 163) && decide (lw_tbl[q.2.2.2.2.1]? = some (.methodLinkNest (m_cR q.1) q.2.1 (m_nm q.2.2.2.1) "QuiltPatches")) && m_at q.2.2.2.2.2.1 (.instanceMethod (m_nm q.2.2.2.1)) && m_at q.2.2.2.2.2.2.2 (.initialized (m_nm q.2.2.2.1).cls)
      && decide ((parseMethodDescriptor (m_nm q.2.2.2.1).desc).map (fun d => d.parameters.length + 1) = some (m_na q.2.2.2.1)) && decide ((m_nm q.2.2.2.1).name = "<init>") && decide (m_rt q.2.2.2.1 = none) && !(m_prim q.2.2.2.1)
  | 5 => m_at q.2.2.2.2.1 (.methodLink (m_cR q.1) q.2.1 objectInit) && m_at q.2.2.2.2.2.1 (.instanceMethod objectInit) && m_at q.2.2.2.2.2.2.1 (.code objectInit ⟨#[0xb1]⟩ 1 none)
  | 6 => m_at q.2.2.2.2.1 (.methodLink (m_cR q.1) q.2.1 arraycopyName) && m_at q.2.2.2.2.2.1 (.native arraycopyName) && m_at q.2.2.2.2.2.2.1 (.static arraycopyName) && m_at q.2.2.2.2.2.2.2 (.initialized "java/lang/System")
  | 7 => m_at q.2.2.2.2.1 (.methodLink (m_cR q.1) q.2.1 Lib.Math.max.name) && m_at q.2.2.2.2.2.1 (.static Lib.Math.max.name) && m_at q.2.2.2.2.2.2.1 (.code Lib.Math.max.name Lib.Math.max.code 2 (some .int)) && m_at q.2.2.2.2.2.2.2 (.initialized "java/lang/Math")
  | 8 => m_at q.2.2.2.2.1 (.methodLink (m_cR q.1) q.2.1 Lib.Math.min.name) && m_at q.2.2.2.2.2.1 (.static Lib.Math.min.name) && m_at q.2.2.2.2.2.2.1 (.code Lib.Math.min.name Lib.Math.min.code 2 (some .int)) && m_at q.2.2.2.2.2.2.2 (.initialized "java/lang/Math")
  | _ => false
set_option maxRecDepth 100000 in
theorem m_mls_all : m_mls.all m_lok = true := by decide +kernel
theorem m_nest_all : m_mls.all (fun q => !(q.2.2.1 == 3 || q.2.2.1 == 4) || decide (lw_tbl[q.2.2.2.2.1]? = some (.methodLinkNest (m_cR q.1) q.2.1 (m_nm q.2.2.2.1) "QuiltPatches"))) = true := by decide +kernel
theorem m_ml_ok {o x k y : Nat} (h : m_ml o x = some (k, y)) : ∃ p1 p2 p3 p4, m_lok (o, x, k, y, p1, p2, p3, p4) = true := by
  unfold m_ml at h
  cases hf : m_mls.find? (fun q => q.1 == o && q.2.1 == x) with
  | none => rw [hf] at h; cases h
  | some q =>
    rw [hf] at h
    have h1 := List.all_eq_true.mp m_mls_all q (List.mem_of_find?_eq_some hf)
    have h2 := List.find?_some hf
    obtain ⟨a, b, c2, d, p1, p2, p3, p4⟩ := q
    simp only [Bool.and_eq_true, beq_iff_eq] at h2
    obtain ⟨rfl, rfl⟩ := h2
    cases h
    exact ⟨p1, p2, p3, p4, h1⟩
end
section
/-! THE LITTLE MACHINE: ints are Int (a result outside of the 32 bits stops it), references are places in a list of cells; what it does, the real one does (part 10) -/
abbrev mV : Type := Option (Int ⊕ Nat)
abbrev mH : Type := List (Nat × List Int)
abbrev mI (k : Int) : mV := some (.inl k)
abbrev mR (a : Nat) : mV := some (.inr a)
def m_in (x : Int) : Bool := decide (-2147483648 ≤ x) && decide (x ≤ 2147483647)
def m_cmp (c : ClassFile.Cond) (a b : Int) : Bool := match c with
  | .eq => decide (a = b)
  | .ne => decide (¬ a = b)
  | .lt => decide (a < b)
  | .ge => decide (b ≤ a)
  | .gt => decide (b < a)
  | .le => decide (a ≤ b)
def m_and (a b : Int) : Int := (Int32.ofInt a &&& Int32.ofInt b).toInt
def m_or (a b : Int) : Int := (Int32.ofInt a ||| Int32.ofInt b).toInt
def m_xor (a b : Int) : Int := (Int32.ofInt a ^^^ Int32.ofInt b).toInt
def m_shl (a b : Int) : Int := (Int32.ofInt a <<< (Int32.ofInt b &&& 31)).toInt
def m_shr (a b : Int) : Int := (Int32.ofInt a >>> (Int32.ofInt b &&& 31)).toInt
def m_ushr (a b : Int) : Int := ((Int32.ofInt a).toUInt32 >>> ((Int32.ofInt b).toUInt32 &&& Int32.toUInt32 31)).toInt32.toInt
def m_jmp (pc : Nat) (off : Int) : Option Nat := if 0 ≤ (pc : Int) + off then some ((pc : Int) + off).toNat else none
def m_def (ci : Nat) : List Int := (m_tagL ci).map (fun t => if t = 2 then -1 else 0)
/-- what a slot of a kind (0 int, 1 boolean, 2 reference) gives -/
def m_ld (t : Nat) (v : Int) : Option mV := if t = 2 then (if v < 0 then none else some (mR v.toNat)) else some (mI v)
/-- what is put into a slot -/
def m_st (t : Nat) (v : mV) : Option Int := match v with
  | some (.inl k) => if t = 0 then some k else if t = 1 then (if k = 0 ∨ k = 1 then some k else none) else none
  | some (.inr a) => if t = 2 ∧ m_in (a : Int) = true then some (a : Int) else none
  | none => none
def m_bin (f : Int → Int → Int) (st : List mV) : Option (List mV) := match st with
  | some (.inl b) :: some (.inl a) :: r => if m_in (f a b) then some (mI (f a b) :: r) else none
  | _ => none
def m_set (H : mH) (a k : Nat) (v : Int) : mH := H.modify a (fun c => (c.1, c.2.set k v))
def m_aget (H : mH) (kind : Nat) (st : List mV) : Option (Int × List mV) := match st with
  | some (.inl i) :: some (.inr a) :: r => match H[a]? with
    | some (k, fs) => if k = kind ∧ 0 ≤ i then (fs[i.toNat]?).map (fun v => (v, r)) else none
    | none => none
  | _ => none
def m_aput (H : mH) (kind t : Nat) (st : List mV) : Option (List mV × mH) := match st with
  | v :: some (.inl i) :: some (.inr a) :: r => match H[a]? with
    | some (k, fs) => if k = kind ∧ 0 ≤ i ∧ i.toNat < fs.length then (m_st t v).map (fun x => (r, m_set H a i.toNat x)) else none
    | none => none
  | _ => none
def m_isL (H : mH) (v : mV) : Bool := match v with
  | some (.inr a) => match H[a]? with
    | some (k, _) => k == 2
    | none => false
  | _ => false
/-- one step of an instruction that neither calls nor returns -/
def m_next (y : Nat) (i : Instr) (len pc : Nat) (ls st : List mV) (H : mH) : Option (Nat × List mV × List mV × mH) := match i with
  | .iconst n => if m_in n then some (pc + len, ls, mI n :: st, H) else none
  | .bipush n => if -128 ≤ n ∧ n ≤ 127 then some (pc + len, ls, mI n :: st, H) else none
  | .sipush n => if -32768 ≤ n ∧ n ≤ 32767 then some (pc + len, ls, mI n :: st, H) else none
  | .ldc_w x => match m_cn (m_own y) x with
    | some v => if m_in v then some (pc + len, ls, mI v :: st, H) else none
    | none => none
  | .iload_n k => match ls[(k : Nat)]? with
    | some (some (.inl v)) => some (pc + len, ls, mI v :: st, H)
    | _ => none
  | .iload k => match ls[k]? with
    | some (some (.inl v)) => some (pc + len, ls, mI v :: st, H)
    | _ => none
  | .aload_n k => match ls[(k : Nat)]? with
    | some (some (.inr v)) => some (pc + len, ls, mR v :: st, H)
    | _ => none
  | .istore_n k => match st with
    | some (.inl v) :: r => if (k : Nat) < ls.length then some (pc + len, ls.set k (mI v), r, H) else none
    | _ => none
  | .istore k => match st with
    | some (.inl v) :: r => if k < ls.length then some (pc + len, ls.set k (mI v), r, H) else none
    | _ => none
  | .astore_n k => match st with
    | some (.inr v) :: r => if (k : Nat) < ls.length then some (pc + len, ls.set k (mR v), r, H) else none
    | _ => none
  | .iinc k n => match ls[k]? with
    | some (some (.inl v)) => if m_in (v + n) then some (pc + len, ls.set k (mI (v + n)), st, H) else none
    | _ => none
  | .iadd => (m_bin (fun a b => a + b) st).map (fun r => (pc + len, ls, r, H))
  | .isub => (m_bin (fun a b => a - b) st).map (fun r => (pc + len, ls, r, H))
  | .imul => (m_bin (fun a b => a * b) st).map (fun r => (pc + len, ls, r, H))
  | .idiv => match st with
    | some (.inl b) :: some (.inl a) :: r => if b = 0 ∨ b = -1 then none else some (pc + len, ls, mI (a.tdiv b) :: r, H)
    | _ => none
  | .irem => match st with
    | some (.inl b) :: some (.inl a) :: r => if b = 0 ∨ b = -1 then none else some (pc + len, ls, mI (a.tmod b) :: r, H)
    | _ => none
  | .iand => match st with
    | some (.inl b) :: some (.inl a) :: r => some (pc + len, ls, mI (m_and a b) :: r, H)
    | _ => none
  | .ior => match st with
    | some (.inl b) :: some (.inl a) :: r => some (pc + len, ls, mI (m_or a b) :: r, H)
    | _ => none
  | .ixor => match st with
    | some (.inl b) :: some (.inl a) :: r => some (pc + len, ls, mI (m_xor a b) :: r, H)
    | _ => none
  | .ishl => match st with
    | some (.inl b) :: some (.inl a) :: r => some (pc + len, ls, mI (m_shl a b) :: r, H)
    | _ => none
  | .ishr => match st with
    | some (.inl b) :: some (.inl a) :: r => some (pc + len, ls, mI (m_shr a b) :: r, H)
    | _ => none
  | .iushr => match st with
    | some (.inl b) :: some (.inl a) :: r => some (pc + len, ls, mI (m_ushr a b) :: r, H)
    | _ => none
  | .dup => match st with
    | some v :: r => some (pc + len, ls, some v :: some v :: r, H)
    | _ => none
  | .dup2 => match st with
    | some v :: some w :: r => some (pc + len, ls, some v :: some w :: some v :: some w :: r, H)
    | _ => none
  | .ifCond c off => match st with
    | some (.inl a) :: r => if m_cmp c a 0 then (m_jmp pc off).map (fun t => (t, ls, r, H)) else some (pc + len, ls, r, H)
    | _ => none
  | .if_icmp c off => match st with
    | some (.inl b) :: some (.inl a) :: r => if m_cmp c a b then (m_jmp pc off).map (fun t => (t, ls, r, H)) else some (pc + len, ls, r, H)
    | _ => none
  | .goto off => (m_jmp pc off).map (fun t => (t, ls, st, H))
  | .tableswitch d lo hi offs => match st with
    | some (.inl a) :: r => (if a < lo ∨ hi < a then m_jmp pc d else (offs[(a - lo).toNat]?).bind (m_jmp pc)).map (fun t => (t, ls, r, H))
    | _ => none
  | .lookupswitch d ps => match st with
    | some (.inl a) :: r => if (ps.toList.zip (ps.toList.drop 1)).all (fun (a, next) => a.1 < next.1) then (m_jmp pc (Op.lookupswitch.offset ps.toList d a)).map (fun t => (t, ls, r, H)) else none
    | _ => none
  | .getfield x => match m_fl (m_own y) x, st with
    | some (ci, k), some (.inr a) :: r => match H[a]? with
      | some (kd, fs) => if kd = ci then (match fs[k]?, (m_tagL ci)[k]? with
        | some v, some t => (m_ld t v).map (fun w => (pc + len, ls, w :: r, H))
        | _, _ => none) else none
      | none => none
    | _, _ => none
  | .putfield x => match m_fl (m_own y) x, st with
    | some (ci, k), v :: some (.inr a) :: r => match H[a]? with
      | some (kd, fs) => if kd = ci ∧ k < fs.length ∧ (((m_C ci).2.1 k).2.2.2 = true → (m_nm y).name = "<init>" ∧ m_cR (m_own y) = (m_C ci).1) then (match (m_tagL ci)[k]? with
        | some t => (m_st t v).map (fun w => (pc + len, ls, r, m_set H a k w))
        | none => none) else none
      | none => none
    | _, _ => none
  | .iaload => (m_aget H 8 st).map (fun q => (pc + len, ls, mI q.1 :: q.2, H))
  | .baload => (m_aget H 9 st).map (fun q => (pc + len, ls, mI q.1 :: q.2, H))
  | .aaload => (m_aget H 10 st).bind (fun q => (m_ld 2 q.1).map (fun w => (pc + len, ls, w :: q.2, H)))
  | .iastore => (m_aput H 8 0 st).map (fun q => (pc + len, ls, q.1, q.2))
  | .bastore => (m_aput H 9 1 st).map (fun q => (pc + len, ls, q.1, q.2))
  | .aastore => if m_isL H (st.headD none) then (m_aput H 10 2 st).map (fun q => (pc + len, ls, q.1, q.2)) else none
  | .arraylength => match st with
    | some (.inr a) :: r => match H[a]? with
      | some (kd, fs) => if (kd = 8 ∨ kd = 9 ∨ kd = 10) ∧ m_in (fs.length : Int) then some (pc + len, ls, mI (fs.length : Int) :: r, H) else none
      | none => none
    | _ => none
  | .new x => match m_cl (m_own y) x with
    | some ci => some (pc + len, ls, mR H.length :: st, H ++ [(ci, m_def ci)])
    | none => none
  | .newarray t => match st with
    | some (.inl n) :: r => if 0 ≤ n ∧ n ≤ 100000 then (match t with
      | .int => some (pc + len, ls, mR H.length :: r, H ++ [(8, List.replicate n.toNat 0)])
      | .boolean => some (pc + len, ls, mR H.length :: r, H ++ [(9, List.replicate n.toNat 0)])
      | _ => none) else none
    | _ => none
  | .anewarray x => match m_cl (m_own y) x, st with
    | some ci, some (.inl n) :: r => if ci = 2 ∧ 0 ≤ n ∧ n ≤ 100000 then some (pc + len, ls, mR H.length :: r, H ++ [(10, List.replicate n.toNat (-1))]) else none
    | _, _ => none
  | _ => none
/-- arraycopy of ints -/
def m_cpy (f g : List Int) (sp dp n : Nat) : List Int := g.take dp ++ ((f.drop sp).take n ++ g.drop (dp + n))
/-- the calls that no code of ours answers: Object.<init>, arraycopy, max, min -/
def m_blt (k : Nat) (st : List mV) (H : mH) : Option (List mV × mH) := match k with
  | 5 => match st with
    | some (.inr _) :: r => some (r, H)
    | _ => none
  | 6 => match st with
    | some (.inl n) :: some (.inl dp) :: some (.inr b) :: some (.inl sp) :: some (.inr a) :: r => match H[a]?, H[b]? with
      | some (ka, f), some (kb, g) => if ka = 8 ∧ kb = 8 ∧ 0 ≤ n ∧ 0 ≤ dp ∧ 0 ≤ sp ∧ sp + n ≤ f.length ∧ dp + n ≤ g.length then some (r, H.modify b (fun c => (c.1, m_cpy f g sp.toNat dp.toNat n.toNat))) else none
      | _, _ => none
    | _ => none
  | 7 => match st with
    | some (.inl b) :: some (.inl a) :: r => some (mI (if a < b then b else a) :: r, H)
    | _ => none
  | 8 => match st with
    | some (.inl b) :: some (.inl a) :: r => some (mI (if b < a then b else a) :: r, H)
    | _ => none
  | _ => none
/-- numbersOf (25), highestOf (27): they read a static array -/
def m_pv (y : Nat) (args : List mV) : Option mV := match args with
  | [some (.inl c)] => if y = 25 then some (mI (if c = 107 then 6 else if c = 115 ∨ c = 119 then 2 else 1)) else none
  | [some (.inl c), some (.inl i)] => if y = 27 then some (mI (if c = 107 then (if 0 ≤ i ∧ i < 6 then (if i = 4 then 5 else 9) else -1) else if c = 119 then (if i = 0 then 3 else 2) else if c = 115 then (if i = 0 then 9 else 4) else 9)) else none
  | _ => none
def m_inv (i : Instr) : Option (Nat × Nat) := match i with
  | .invokevirtual x => some (0, x)
  | .invokestatic x => some (1, x)
  | .invokespecial x => some (2, x)
  | _ => none
/-- the kind of a call fits its instruction -/
def m_fit (j k : Nat) : Bool := (j == 0 && k == 0) || (j == 1 && (k == 1 || k == 3 || k == 6 || k == 7 || k == 8)) || (j == 2 && (k == 2 || k == 4 || k == 5))
/-- the receiver is an object of the method's own class -/
def m_rcv (k y : Nat) (args : List mV) (H : mH) : Bool := match k with
  | 0 => match args with
    | some (.inr a) :: _ => match H[a]? with
      | some (kd, _) => kd == m_own y
      | none => false
    | _ => false
  | 1 => true
  | 3 => true
  | _ => match args with
    | some (.inr _) :: _ => true
    | _ => false
def m_rok (y : Nat) (v : Int) : Bool := decide (m_rt y = some .int) || (decide (m_rt y = some .boolean) && (v == 0 || v == 1))
/-- the run of a method from a place on: its answer (none: void) and the cells -/
def ev : Nat → Nat → Nat → Nat → List mV → List mV → mH → Option (mV × mH)
  | 0, _, _, _, _, _, _ => none
  | N + 1, d, y, pc, ls, st, H => match m_get y pc with
    | none => none
    | some (i, len) => match i with
      | .return_ => if st = [] ∧ m_rt y = none then some (none, H) else none
      | .ireturn => match st with
        | [some (.inl v)] => if m_rok y v then some (mI v, H) else none
        | _ => none
      | i => match m_inv i with
        | none => match m_next y i len pc ls st H with
          | some (pc', ls', st', H') => ev N d y pc' ls' st' H'
          | none => none
        | some (j, x) => match m_ml (m_own y) x, d with
          | some (k, z), d + 1 => if len = 3 ∧ m_fit j k = true then (if 5 ≤ k then (match m_blt k st H with
              | some (st', H') => if st'.length ≤ 8 then ev N (d + 1) y (pc + 3) ls st' H' else none
              | none => none)
            else if m_na z ≤ st.length ∧ (st.drop (m_na z)).length ≤ 8 ∧ m_rcv k z (st.take (m_na z)).reverse H = true then
              (if m_prim z then (match m_pv z (st.take (m_na z)).reverse with
                | some r => ev N (d + 1) y (pc + 3) ls (r :: st.drop (m_na z)) H
                | none => none)
              else match ev N d z 0 ((st.take (m_na z)).reverse ++ List.replicate (m_mx z - m_na z) none) [] H with
                | some (r, H') => ev N (d + 1) y (pc + 3) ls ((match r with
                  | none => []
                  | some v => [some v]) ++ st.drop (m_na z)) H'
                | none => none)
            else none) else none
          | _, _ => none
end
section
/-! the real machine's values and cells for the little one's -/
def m_enc (B : Nat) (v : mV) : Value := match v with
  | some (.inl k) => .int (Int32.ofInt k)
  | some (.inr a) => .ref (B + a)
  | none => .int 0
def m_encT (B t : Nat) (v : Int) : Value := if t = 2 then (if v < 0 then .null else .ref (B + v.toNat)) else .int (Int32.ofInt v)
def m_encO (B ci : Nat) (fs : List Int) : List Value := List.zipWith (m_encT B) (m_tagL ci) fs
abbrev mK : Type := ClassId × ClassId × ClassId
def m_encC (B : Nat) (K : mK) (c : Nat × List Int) : va_E :=
  if c.1 < 8 then .inr (c.1, m_encO B c.1 c.2)
  else if c.1 = 8 then .inl (K.1, c.2.length, .inl (fun j => Int32.ofInt (c.2.getD j 0)))
  else if c.1 = 9 then .inl (K.2.1, c.2.length, .inl (fun j => Int32.ofInt (c.2.getD j 0)))
  else .inl (K.2.2, c.2.length, .inr (.inr (.inr (.inr (fun j => if c.2.getD j (-1) < 0 then none else some (B + (c.2.getD j (-1)).toNat))))))
def m_ws (B : Nat) (K : mK) (H : mH) : va_W := H.mapIdx (fun k c => (B + k, m_encC B K c))
def m_tys (K : mK) : List (ClassId × FieldType) := [(K.1, .int), (K.2.1, .boolean), (K.2.2, .object "QuiltPatches$Layout")]
def m_okC (c : Nat × List Int) : Prop := (∀ v ∈ c.2, m_in v = true) ∧ c.1 ≤ 10 ∧ (c.1 < 8 → c.2.length = (m_C c.1).2.2)
def m_okH (H : mH) : Prop := ∀ c ∈ H, m_okC c
def m_okV (v : mV) : Prop := ∀ k, v = mI k → m_in k = true
def m_okS (st : List mV) : Prop := ∀ v ∈ st, m_okV v ∧ v ≠ none
def m_okL (ls : List mV) : Prop := ∀ v ∈ ls, m_okV v
def m_sz (H : mH) : Nat := (H.map (fun c => c.2.length)).sum
theorem m_in_iff {x : Int} : m_in x = true ↔ -2147483648 ≤ x ∧ x ≤ 2147483647 := by simp [m_in]
theorem m_toInt {a : Int} (h : m_in a = true) : (Int32.ofInt a).toInt = a := by
  rw [m_in_iff] at h
  exact Int32.toInt_ofInt_of_le (by omega) (by omega)
theorem m_in_toInt (x : Int32) : m_in x.toInt = true := by
  rw [m_in_iff]
  have h1 := Int32.le_toInt x
  have h2 := Int32.toInt_lt x
  constructor <;> omega
theorem m_of_toInt (x : Int32) : Int32.ofInt x.toInt = x := Int32.ofInt_toInt x
theorem m_lt {a b : Int} (ha : m_in a = true) (hb : m_in b = true) : Int32.ofInt a < Int32.ofInt b ↔ a < b := by
  rw [Int32.lt_iff_toInt_lt, m_toInt ha, m_toInt hb]
theorem m_le {a b : Int} (ha : m_in a = true) (hb : m_in b = true) : Int32.ofInt a ≤ Int32.ofInt b ↔ a ≤ b := by
  rw [Int32.le_iff_toInt_le, m_toInt ha, m_toInt hb]
theorem m_eq {a b : Int} (ha : m_in a = true) (hb : m_in b = true) : Int32.ofInt a = Int32.ofInt b ↔ a = b := by
  rw [← Int32.toInt_inj, m_toInt ha, m_toInt hb]
theorem m_in0 : m_in 0 = true := by decide
theorem m_of0 : Int32.ofInt 0 = 0 := rfl
theorem m_nat {i : Int} (h : m_in i = true) : (Int32.ofInt i).toNatClampNeg = i.toNat := by
  show (Int32.ofInt i).toInt.toNat = i.toNat
  rw [m_toInt h]
theorem m_vin {i : Int} {n : Nat} (h : m_in i = true) (h0 : 0 ≤ i) (hn : i.toNat < n) : vp_in (Int32.ofInt i) n := by
  rw [vp_in_iff, m_toInt h]
  omega
theorem m_nneg {i : Int} (h : m_in i = true) (h0 : 0 ≤ i) : ¬ Int32.ofInt i < 0 := by
  rw [← m_of0, m_lt h m_in0]
  omega
theorem m_div {a b : Int} (ha : m_in a = true) (hb : m_in b = true) (h0 : ¬ (b = 0 ∨ b = -1)) : m_in (a.tdiv b) = true ∧ Int32.ofInt (a.tdiv b) = Int32.ofInt a / Int32.ofInt b := by
  have hin : m_in (a.tdiv b) = true := by
    rw [m_in_iff] at ha ⊢
    have hb2 : 2 ≤ b.natAbs ∨ b = 1 := by omega
    have h1 : (a.tdiv b).natAbs = a.natAbs / b.natAbs := Int.natAbs_tdiv a b
    rcases hb2 with hb2 | rfl
    · have h2 : a.natAbs / b.natAbs ≤ a.natAbs / 2 := Nat.div_le_div_left hb2 (by omega)
      omega
    · simp; omega
  refine ⟨hin, ?_⟩
  rw [← Int32.toInt_inj, m_toInt hin, Int32.toInt_div, m_toInt ha, m_toInt hb]
  rw [m_in_iff] at hin
  exact (Int.bmod_eq_of_le (by omega) (by omega)).symm
theorem m_rem {a b : Int} (ha : m_in a = true) (hb : m_in b = true) (h0 : ¬ (b = 0 ∨ b = -1)) : m_in (a.tmod b) = true ∧ Int32.ofInt (a.tmod b) = Int32.ofInt a - Int32.ofInt a / Int32.ofInt b * Int32.ofInt b := by
  have h1 : a.tmod b = a - a.tdiv b * b := by
    have := Int.tmod_add_tdiv_mul a b
    omega
  constructor
  · have h2 : (a.tmod b).natAbs ≤ a.natAbs := by
      rw [Int.natAbs_tmod]
      exact Nat.mod_le _ _
    rw [m_in_iff] at ha ⊢
    have h3 : 0 ≤ a → 0 ≤ a.tmod b := fun h => Int.tmod_nonneg b h
    have h4 : a ≤ 0 → a.tmod b ≤ 0 := fun h => by
      have := Int.tmod_nonneg b (a := -a) (by omega)
      rw [Int.neg_tmod] at this
      omega
    omega
  · rw [h1, Int32.ofInt_sub, Int32.ofInt_mul, (m_div ha hb h0).2]
theorem m_ws_get {B : Nat} {K : mK} {H : mH} {a : Nat} {c : Nat × List Int} (h : H[a]? = some c) : (m_ws B K H)[a]? = some (B + a, m_encC B K c) := by
  simp [m_ws, List.getElem?_mapIdx, h]
theorem m_ws_inv {B : Nat} {K : mK} {H : mH} {k : Nat} {q : Nat × va_E} (h : (m_ws B K H)[k]? = some q) : ∃ c, H[k]? = some c ∧ q = (B + k, m_encC B K c) := by
  simp only [m_ws, List.getElem?_mapIdx, Option.map_eq_some_iff] at h
  obtain ⟨c, h1, h2⟩ := h
  exact ⟨c, h1, h2.symm⟩
theorem m_ws_D (B : Nat) (K : mK) (H : mH) : va_D (fun q => B ≤ q) (m_ws B K H) := by
  refine ⟨fun i j p q hi hj hpq => ?_, fun k q hk => ?_⟩
  · obtain ⟨c, h1, rfl⟩ := m_ws_inv hi
    obtain ⟨c', h1', rfl⟩ := m_ws_inv hj
    simp only at hpq
    omega
  · obtain ⟨c, h1, rfl⟩ := m_ws_inv hk
    exact Nat.le_add_right _ _
theorem m_ws_mod {B : Nat} {K : mK} {H : mH} {a : Nat} {c : Nat × List Int} (g : Nat × List Int → Nat × List Int) (h : H[a]? = some c) : m_ws B K (H.modify a g) = (m_ws B K H).set a (B + a, m_encC B K (g c)) := by
  apply List.ext_getElem?
  intro k
  simp only [m_ws, List.getElem?_mapIdx, List.getElem?_modify, List.getElem?_set, List.length_mapIdx]
  by_cases hk : a = k
  · subst hk
    obtain ⟨hl, he⟩ := List.getElem?_eq_some_iff.mp h
    simp [hl, he]
  · simp [hk]
theorem m_ws_app (B : Nat) (K : mK) (H : mH) (c : Nat × List Int) : m_ws B K (H ++ [c]) = m_ws B K H ++ [(B + H.length, m_encC B K c)] := by
  simp [m_ws, List.mapIdx_append]
theorem m_encO_get {B ci k t : Nat} {fs : List Int} {v : Int} (hv : fs[k]? = some v) (ht : (m_tagL ci)[k]? = some t) : (m_encO B ci fs)[k]? = some (m_encT B t v) := by
  simp [m_encO, List.getElem?_zipWith, hv, ht]
theorem m_encO_set {B ci k t : Nat} {fs : List Int} {w : Int} (ht : (m_tagL ci)[k]? = some t) (hk : k < fs.length) : (m_encO B ci fs).set k (m_encT B t w) = m_encO B ci (fs.set k w) := by
  apply List.ext_getElem?
  intro j
  by_cases hj : k = j
  · subst hj
    have h1 : k < (m_tagL ci).length := (List.getElem?_eq_some_iff.mp ht).1
    have h2 : (fs.set k w)[k]? = some w := by simp [hk]
    rw [m_encO_get h2 ht, List.getElem?_set_self]
    simp [m_encO]
    omega
  · rw [List.getElem?_set_ne hj]
    simp [m_encO, List.getElem?_zipWith, hj]
theorem m_encO_len {B ci : Nat} {fs : List Int} (h : fs.length = (m_tagL ci).length) : (m_encO B ci fs).length = fs.length := by
  simp [m_encO, h]
theorem m_sz_app (H : mH) (c : Nat × List Int) : m_sz (H ++ [c]) = m_sz H + c.2.length := by simp [m_sz]
theorem m_set_len (H : mH) (a k : Nat) (v : Int) : (m_set H a k v).length = H.length := by simp [m_set]
theorem m_modsz (H : mH) (a : Nat) (g : Nat × List Int → Nat × List Int) (hg : ∀ c, H[a]? = some c → (g c).2.length = c.2.length) : m_sz (H.modify a g) = m_sz H := by
  unfold m_sz
  congr 1
  apply List.ext_getElem?
  intro k
  simp only [List.getElem?_map, List.getElem?_modify]
  by_cases hk : a = k
  · subst hk
    cases h : H[a]? with
    | none => simp
    | some c => simp [hg c h]
  · simp [hk]
theorem m_set_sz (H : mH) (a k : Nat) (v : Int) : m_sz (m_set H a k v) = m_sz H := m_modsz H a _ (fun c _ => by simp)
theorem m_mod_ok {H : mH} {a : Nat} {g : Nat × List Int → Nat × List Int} (h : m_okH H) (hg : ∀ c, H[a]? = some c → m_okC c → m_okC (g c)) : m_okH (H.modify a g) := by
  intro c hc
  obtain ⟨k, hk⟩ := List.getElem?_of_mem hc
  rw [List.getElem?_modify] at hk
  by_cases e : a = k
  · subst e
    cases h1 : H[a]? with
    | none => simp [h1] at hk
    | some c0 =>
      simp [h1] at hk
      rw [← hk]
      exact hg c0 h1 (h c0 (List.mem_of_getElem? h1))
  · simp [e] at hk
    exact h c (List.mem_of_getElem? hk)
theorem m_set_ok {H : mH} {a k : Nat} {v : Int} (h : m_okH H) (hv : m_in v = true) : m_okH (m_set H a k v) := by
  refine m_mod_ok h (fun c _ hc => ⟨fun w hw => ?_, hc.2.1, fun h8 => ?_⟩)
  · rcases List.mem_or_eq_of_mem_set hw with hw | rfl
    · exact hc.1 w hw
    · exact hv
  · simpa using hc.2.2 h8
theorem m_app_ok {H : mH} {c : Nat × List Int} (h : m_okH H) (hc : m_okC c) : m_okH (H ++ [c]) := by
  intro x hx
  rcases List.mem_append.mp hx with hx | hx
  · exact h x hx
  · simp at hx
    rw [hx]
    exact hc
theorem m_enc_cat (B : Nat) (v : mV) : (m_enc B v).category = 1 := by
  match v with
  | some (.inl _) => rfl
  | some (.inr _) => rfl
  | none => rfl
/-- the locals -/
def m_lv (B nL : Nat) (ls : List mV) (lsr : Array Slot) : Prop := lsr.size = nL ∧ lv_wf lsr ∧ ∀ (i : Nat) (w : Int ⊕ Nat), ls[i]? = some (some w) → lsr[i]? = some (.val (m_enc B (some w)))
def m_lvl (B : Nat) (ls : List mV) : List (Nat × Value) := ls.zipIdx.filterMap (fun q => q.1.map (fun w => (q.2, m_enc B (some w))))
theorem m_lvl_mem {B : Nat} {ls : List mV} {q : Nat × Value} : q ∈ m_lvl B ls ↔ ∃ w, ls[q.1]? = some (some w) ∧ q.2 = m_enc B (some w) := by
  unfold m_lvl
  rw [List.mem_filterMap]
  constructor
  · rintro ⟨⟨v, i⟩, h1, h2⟩
    rw [List.mk_mem_zipIdx_iff_getElem?] at h1
    cases v with
    | none => cases h2
    | some w =>
      cases h2
      exact ⟨w, h1, rfl⟩
  · rintro ⟨w, h1, h2⟩
    refine ⟨(some w, q.1), List.mk_mem_zipIdx_iff_getElem?.mpr h1, ?_⟩
    rw [show q = (q.1, q.2) from rfl, h2]
    rfl
theorem m_lv_has {B nL : Nat} {ls : List mV} {lsr : Array Slot} (h : m_lv B nL ls lsr) : lv_has lsr nL (m_lvl B ls) := by
  refine ⟨h.1, h.2.1, fun q hq => ?_⟩
  obtain ⟨w, h1, h2⟩ := m_lvl_mem.mp hq
  rw [h2]
  exact h.2.2 q.1 w h1
theorem m_lv_of {B nL : Nat} {ls : List mV} {lsr : Array Slot} {l : List (Nat × Value)} (h : lv_has lsr nL l) (hs : ∀ (i : Nat) (w : Int ⊕ Nat), ls[i]? = some (some w) → (i, m_enc B (some w)) ∈ l) : m_lv B nL ls lsr :=
  ⟨h.1, h.2.1, fun i w hi => h.2.2 _ (hs i w hi)⟩
theorem m_lv_set {B nL k : Nat} {ls : List mV} {lsr : Array Slot} {w : Int ⊕ Nat} (hk : k < ls.length) (h : lv_has lsr nL ((k, m_enc B (some w)) :: (m_lvl B ls).filter (fun q => !(q.1 == k) && !(q.1 + 1 == k && q.2.category == 2)))) : m_lv B nL (ls.set k (some w)) lsr := by
  refine m_lv_of h (fun i v hi => ?_)
  by_cases e : k = i
  · subst e
    rw [List.getElem?_set_self hk] at hi
    cases hi
    exact List.mem_cons_self
  · rw [List.getElem?_set_ne e] at hi
    refine List.mem_cons_of_mem _ (List.mem_filter.mpr ⟨m_lvl_mem.mpr ⟨v, hi, rfl⟩, ?_⟩)
    have h1 : ((m_enc B (some v)).category == 2) = false := by rw [m_enc_cat]; rfl
    have h2 : (i == k) = false := by simp; omega
    simp [h1, h2]
theorem m_okS_cons {v : mV} {st : List mV} (hv : m_okV v) (hn : v ≠ none) (h : m_okS st) : m_okS (v :: st) := by
  intro x hx
  rcases List.mem_cons.mp hx with rfl | hx
  · exact ⟨hv, hn⟩
  · exact h x hx
theorem m_okS_tl {v : mV} {st : List mV} (h : m_okS (v :: st)) : m_okS st := fun x hx => h x (List.mem_cons_of_mem _ hx)
theorem m_okS_hd {k : Int} {st : List mV} (h : m_okS (mI k :: st)) : m_in k = true := (h _ List.mem_cons_self).1 k rfl
theorem m_okVI {k : Int} (h : m_in k = true) : m_okV (mI k) := fun j e => by
  have : k = j := by simpa [mI] using e
  exact this ▸ h
theorem m_okVR (a : Nat) : m_okV (mR a) := fun j e => by simp [mI, mR] at e
theorem m_okS_I {k : Int} {st : List mV} (hk : m_in k = true) (h : m_okS st) : m_okS (mI k :: st) := m_okS_cons (m_okVI hk) (by simp) h
theorem m_okS_R {a : Nat} {st : List mV} (h : m_okS st) : m_okS (mR a :: st) := m_okS_cons (m_okVR a) (by simp) h
theorem m_okL_set {k : Nat} {v : mV} {ls : List mV} (h : m_okL ls) (hv : m_okV v) : m_okL (ls.set k v) := by
  intro x hx
  rcases List.mem_or_eq_of_mem_set hx with hx | rfl
  · exact h x hx
  · exact hv
theorem m_okL_get {k : Nat} {v : Int} {ls : List mV} (h : m_okL ls) (hv : ls[k]? = some (some (.inl v))) : m_in v = true := h _ (List.mem_of_getElem? hv) v rfl
end
section
/-! each instruction: what the little machine does, the real one does -/
def m_kh (j : Nat) : Int32 := if j = 4 then 5 else 9
def m_nests (U : State) : Prop := ∀ q ∈ m_mls, (q.2.2.1 = 3 ∨ q.2.2.1 = 4) → va_Nw (.methodLinkNest (m_cR q.1) q.2.1 (m_nm q.2.2.2.1) "QuiltPatches") U
def m_env (D : va_G) (K : mK) (B kh : Nat) (U : State) (Hr : Heap) : Prop := va_K D m_classes (m_tys K) U ∧ va_AO "QuiltPatches$Layout" U ∧ m_nests U ∧ va_Z RX3 "KIND_HIGHEST" "[I" (.ref kh) (fun q => B ≤ q) U Hr ∧ va_X kh 6 m_kh U Hr ∧ kh < B
theorem m_env_go {D : va_G} {K : mK} {B kh : Nat} {s U : State} {Hr : Heap} (h : m_env D K B kh s s.heap) (hW : s.WarmedH U.vm) (hH : ∀ q, q < s.heap.size → ¬ B ≤ q → Hr[q]? = s.heap[q]?) (hB : B ≤ s.heap.size) : m_env D K B kh U Hr := by
  obtain ⟨h1, h2, h3, h4, h5, h6⟩ := h
  exact ⟨va_K.moved hW.alike h1, va_AO.moved hW.alike h2, fun q hq hk => va_Nw.warmM hW (h3 q hq hk), (va_Z.moved hW.alike h4).kept hH, (va_X.moved hW.alike h5).kept (hH kh (by omega) (by omega)), h6⟩
def m_ctx (D : va_G) (K : mK) (B kh y : Nat) (p : Program) (s : State) (m : MethodId) (args : Array Value) (meth : Method) (c : Code) : Prop :=
  p.tables.exec = Jvm.exec ∧ c.code = m_by y ∧ meth.sig.returnType = m_rt y ∧ c.maxLocals = m_mx y ∧ s.vm.findClass (m_cR (m_own y)) = some m.cls ∧ (∀ w ∈ m_tbl, w.before args s = true) ∧ meth.locks = false ∧ meth.name = (m_nm y).name ∧ m_env D K B kh s s.heap ∧ B ≤ s.heap.size
def m_rm (d mc ms : Nat) : Room := { frames := d, cells := mc, slots := ms, locals := 64 * d }
/-- the real machine comes to Q from this place -/
def m_P (l : Launch) (D : va_G) (K : mK) (B d mc ms y : Nat) (p : Program) (e : Env) (s : State) (m : MethodId) (args : Array Value) (below : List Frame) (meth : Method) (c : Code) (Q : State → Prop) (pc : Nat) (ls st : List mV) (H : mH) (k n : Nat) : Prop :=
  s.heap.size + k = B + H.length → ∀ (Hr : Heap) (locs : List Loc) (lsr : Array Slot), va_P D m_classes (m_ws B K H) Hr → va_S (fun q => B ≤ q) s.heap Hr locs → m_lv B (m_mx y) ls lsr → W p l e (m_rm d mc ms) s m args below meth c Hr locs k n Q (F0 m pc lsr (st.map (m_enc B)))
section MS
variable {l : Launch} {D : va_G} {K : mK} {B kh d mc ms y : Nat} {p : Program} {e : Env} {s : State} {m : MethodId} {args : Array Value} {below : List Frame} {meth : Method} {c : Code} {Q : State → Prop} {pc : Nat} {ls st : List mV} {H : mH} {k n : Nat}
/-- how large the real heap is -/
theorem m_size {T : State} {Hr : Heap} {locs : List Loc} (hk : s.heap.size + k = B + H.length) (hP : va_P D m_classes (m_ws B K H) Hr) (hS : va_S (fun q => B ≤ q) s.heap Hr locs) (hB : B ≤ s.heap.size) (hT : T.heap = Hr) (X : Stand p l e (m_rm d mc ms) s m args below meth c T locs k n) : Hr.size = B + H.length := by
  have h1 := X.heapSize
  rw [hT] at h1
  have h2 : B + H.length ≤ Hr.size := by
    by_cases h0 : H.length = 0
    · have := hS.1
      omega
    · have hl : H.length - 1 < H.length := by omega
      have h3 := hP (H.length - 1) _ (m_ws_get (List.getElem?_eq_getElem hl))
      have h4 := h3.lt
      simp only at h4
      omega
  omega
theorem s_iconst (hc : m_ctx D K B kh y p s m args meth c) {x : Int} (hd : decode (m_by y) pc = .ok (.iconst x, 1)) (h : m_P l D K B d mc ms y p e s m args below meth c Q (pc + 1) ls (mI x :: st) H k n) : m_P l D K B d mc ms y p e s m args below meth c Q pc ls st H k n :=
  fun hk Hr locs lsr hP hS hl => lv_iconst hc.1 hc.2.1 hd rfl (h hk Hr locs lsr hP hS hl)
theorem s_bipush (hc : m_ctx D K B kh y p s m args meth c) {x : Int} (hd : decode (m_by y) pc = .ok (.bipush x, 2)) (hx : -128 ≤ x ∧ x ≤ 127) (h : m_P l D K B d mc ms y p e s m args below meth c Q (pc + 2) ls (mI x :: st) H k n) : m_P l D K B d mc ms y p e s m args below meth c Q pc ls st H k n :=
  fun hk Hr locs lsr hP hS hl => lv_bipush hc.1 hc.2.1 hd (by rw [← Int32.toInt_inj, Int8.toInt_toInt32, Int8.toInt_ofInt_of_le (by omega) (by omega), Int32.toInt_ofInt_of_le (by omega) (by omega)]) (h hk Hr locs lsr hP hS hl)
theorem s_sipush (hc : m_ctx D K B kh y p s m args meth c) {x : Int} (hd : decode (m_by y) pc = .ok (.sipush x, 3)) (hx : -32768 ≤ x ∧ x ≤ 32767) (h : m_P l D K B d mc ms y p e s m args below meth c Q (pc + 3) ls (mI x :: st) H k n) : m_P l D K B d mc ms y p e s m args below meth c Q pc ls st H k n :=
  fun hk Hr locs lsr hP hS hl => lv_sipush hc.1 hc.2.1 hd (by rw [← Int32.toInt_inj, Int16.toInt_toInt32, Int16.toInt_ofInt_of_le (by omega) (by omega), Int32.toInt_ofInt_of_le (by omega) (by omega)]) (h hk Hr locs lsr hP hS hl)
theorem s_ldc_w (hc : m_ctx D K B kh y p s m args meth c) {x : Nat} {v : Int} (hd : decode (m_by y) pc = .ok (.ldc_w x, 3)) (hx : m_cn (m_own y) x = some v) (h : m_P l D K B d mc ms y p e s m args below meth c Q (pc + 3) ls (mI v :: st) H k n) : m_P l D K B d mc ms y p e s m args below meth c Q pc ls st H k n :=
  fun hk Hr locs lsr hP hS hl => lv_ldcw hc.1 hc.2.1 hc.2.2.2.2.1 (hc.2.2.2.2.2.1 _ (m_cn_ok hx)) hd (h hk Hr locs lsr hP hS hl)
theorem s_iload_n (hc : m_ctx D K B kh y p s m args meth c) {x : Fin 4} {v : Int} (hd : decode (m_by y) pc = .ok (.iload_n x, 1)) (hx : ls[(x : Nat)]? = some (mI v)) (h : m_P l D K B d mc ms y p e s m args below meth c Q (pc + 1) ls (mI v :: st) H k n) : m_P l D K B d mc ms y p e s m args below meth c Q pc ls st H k n :=
  fun hk Hr locs lsr hP hS hl => lv_iload_n hc.1 hc.2.1 hd rfl (hl.2.2 _ _ hx) (h hk Hr locs lsr hP hS hl)
theorem s_iload (hc : m_ctx D K B kh y p s m args meth c) {x : Nat} {v : Int} (hd : decode (m_by y) pc = .ok (.iload x, 2)) (hx : ls[x]? = some (mI v)) (h : m_P l D K B d mc ms y p e s m args below meth c Q (pc + 2) ls (mI v :: st) H k n) : m_P l D K B d mc ms y p e s m args below meth c Q pc ls st H k n :=
  fun hk Hr locs lsr hP hS hl => lv_iload hc.1 hc.2.1 hd (hl.2.2 _ _ hx) (h hk Hr locs lsr hP hS hl)
theorem s_aload_n (hc : m_ctx D K B kh y p s m args meth c) {x : Fin 4} {v : Nat} (hd : decode (m_by y) pc = .ok (.aload_n x, 1)) (hx : ls[(x : Nat)]? = some (mR v)) (h : m_P l D K B d mc ms y p e s m args below meth c Q (pc + 1) ls (mR v :: st) H k n) : m_P l D K B d mc ms y p e s m args below meth c Q pc ls st H k n :=
  fun hk Hr locs lsr hP hS hl => lv_aload_n hc.1 hc.2.1 hd rfl (hl.2.2 _ _ hx) (h hk Hr locs lsr hP hS hl)
theorem s_istore_n (hc : m_ctx D K B kh y p s m args meth c) (hL : ls.length = m_mx y) {x : Fin 4} {v : Int} (hd : decode (m_by y) pc = .ok (.istore_n x, 1)) (hx : (x : Nat) < ls.length) (h : m_P l D K B d mc ms y p e s m args below meth c Q (pc + 1) (ls.set x (mI v)) st H k n) : m_P l D K B d mc ms y p e s m args below meth c Q pc ls (mI v :: st) H k n :=
  fun hk Hr locs lsr hP hS hl => lv_istore_n hc.1 hc.2.1 hd rfl (m_lv_has hl) (hL ▸ hx) rfl (fun ls' h' => h hk Hr locs ls' hP hS (m_lv_set hx h'))
theorem s_istore (hc : m_ctx D K B kh y p s m args meth c) (hL : ls.length = m_mx y) {x : Nat} {v : Int} (hd : decode (m_by y) pc = .ok (.istore x, 2)) (hx : x < ls.length) (h : m_P l D K B d mc ms y p e s m args below meth c Q (pc + 2) (ls.set x (mI v)) st H k n) : m_P l D K B d mc ms y p e s m args below meth c Q pc ls (mI v :: st) H k n :=
  fun hk Hr locs lsr hP hS hl => lv_istore hc.1 hc.2.1 hd (m_lv_has hl) (hL ▸ hx) rfl (fun ls' h' => h hk Hr locs ls' hP hS (m_lv_set hx h'))
theorem s_astore_n (hc : m_ctx D K B kh y p s m args meth c) (hL : ls.length = m_mx y) {x : Fin 4} {v : Nat} (hd : decode (m_by y) pc = .ok (.astore_n x, 1)) (hx : (x : Nat) < ls.length) (h : m_P l D K B d mc ms y p e s m args below meth c Q (pc + 1) (ls.set x (mR v)) st H k n) : m_P l D K B d mc ms y p e s m args below meth c Q pc ls (mR v :: st) H k n :=
  fun hk Hr locs lsr hP hS hl => lv_astore_n hc.1 hc.2.1 hd rfl (m_lv_has hl) (hL ▸ hx) rfl (fun ls' h' => h hk Hr locs ls' hP hS (m_lv_set hx h'))
theorem s_iinc (hc : m_ctx D K B kh y p s m args meth c) (hL : ls.length = m_mx y) {x : Nat} {v a : Int} (hd : decode (m_by y) pc = .ok (.iinc x a, 3)) (hx : ls[x]? = some (mI v)) (h : m_P l D K B d mc ms y p e s m args below meth c Q (pc + 3) (ls.set x (mI (v + a))) st H k n) : m_P l D K B d mc ms y p e s m args below meth c Q pc ls st H k n := by
  intro hk Hr locs lsr hP hS hl
  have hlt : x < ls.length := (List.getElem?_eq_some_iff.mp hx).1
  obtain ⟨j, hj⟩ := List.getElem?_of_mem (m_lvl_mem.mpr ⟨_, hx, rfl⟩ : (x, m_enc B (mI v)) ∈ m_lvl B ls)
  exact lv_iinc (v := Int32.ofInt (v + a)) hc.1 hc.2.1 hd (m_lv_has hl) (k := j) hj (Int32.ofInt_add v a).symm (hL ▸ hlt) rfl (fun ls' h' => h hk Hr locs ls' hP hS (m_lv_set hlt h'))
theorem s_iadd (hc : m_ctx D K B kh y p s m args meth c) {a b : Int} (hd : decode (m_by y) pc = .ok (.iadd, 1)) (h : m_P l D K B d mc ms y p e s m args below meth c Q (pc + 1) ls (mI (a + b) :: st) H k n) : m_P l D K B d mc ms y p e s m args below meth c Q pc ls (mI b :: mI a :: st) H k n := by
  intro hk Hr locs lsr hP hS hl
  refine lv_iadd hc.1 hc.2.1 hd ?_
  rw [← Int32.ofInt_add]
  exact h hk Hr locs lsr hP hS hl
theorem s_isub (hc : m_ctx D K B kh y p s m args meth c) {a b : Int} (hd : decode (m_by y) pc = .ok (.isub, 1)) (h : m_P l D K B d mc ms y p e s m args below meth c Q (pc + 1) ls (mI (a - b) :: st) H k n) : m_P l D K B d mc ms y p e s m args below meth c Q pc ls (mI b :: mI a :: st) H k n := by
  intro hk Hr locs lsr hP hS hl
  refine lv_isub hc.1 hc.2.1 hd ?_
  rw [← Int32.ofInt_sub]
  exact h hk Hr locs lsr hP hS hl
theorem s_imul (hc : m_ctx D K B kh y p s m args meth c) {a b : Int} (hd : decode (m_by y) pc = .ok (.imul, 1)) (h : m_P l D K B d mc ms y p e s m args below meth c Q (pc + 1) ls (mI (a * b) :: st) H k n) : m_P l D K B d mc ms y p e s m args below meth c Q pc ls (mI b :: mI a :: st) H k n := by
  intro hk Hr locs lsr hP hS hl
  refine lv_imul hc.1 hc.2.1 hd ?_
  rw [← Int32.ofInt_mul]
  exact h hk Hr locs lsr hP hS hl
theorem s_ne0 {b : Int} (hb : m_in b = true) (h0 : ¬ (b = 0 ∨ b = -1)) : ¬ Int32.ofInt b = 0 := by
  rw [← m_of0, m_eq hb m_in0]
  omega
theorem s_idiv (hc : m_ctx D K B kh y p s m args meth c) {a b : Int} (hd : decode (m_by y) pc = .ok (.idiv, 1)) (ha : m_in a = true) (hb : m_in b = true) (h0 : ¬ (b = 0 ∨ b = -1)) (h : m_P l D K B d mc ms y p e s m args below meth c Q (pc + 1) ls (mI (a.tdiv b) :: st) H k n) : m_P l D K B d mc ms y p e s m args below meth c Q pc ls (mI b :: mI a :: st) H k n := by
  intro hk Hr locs lsr hP hS hl
  refine lv_idiv hc.1 hc.2.1 hd (s_ne0 hb h0) ?_
  rw [← (m_div ha hb h0).2]
  exact h hk Hr locs lsr hP hS hl
theorem s_irem (hc : m_ctx D K B kh y p s m args meth c) {a b : Int} (hd : decode (m_by y) pc = .ok (.irem, 1)) (ha : m_in a = true) (hb : m_in b = true) (h0 : ¬ (b = 0 ∨ b = -1)) (h : m_P l D K B d mc ms y p e s m args below meth c Q (pc + 1) ls (mI (a.tmod b) :: st) H k n) : m_P l D K B d mc ms y p e s m args below meth c Q pc ls (mI b :: mI a :: st) H k n := by
  intro hk Hr locs lsr hP hS hl
  refine lv_irem hc.1 hc.2.1 hd (s_ne0 hb h0) ?_
  rw [← (m_rem ha hb h0).2]
  exact h hk Hr locs lsr hP hS hl
theorem s_iand (hc : m_ctx D K B kh y p s m args meth c) {a b : Int} (hd : decode (m_by y) pc = .ok (.iand, 1)) (h : m_P l D K B d mc ms y p e s m args below meth c Q (pc + 1) ls (mI (m_and a b) :: st) H k n) : m_P l D K B d mc ms y p e s m args below meth c Q pc ls (mI b :: mI a :: st) H k n := by
  intro hk Hr locs lsr hP hS hl
  refine lv_iand hc.1 hc.2.1 hd ?_
  rw [← m_of_toInt (_ &&& _)]
  exact h hk Hr locs lsr hP hS hl
theorem s_ior (hc : m_ctx D K B kh y p s m args meth c) {a b : Int} (hd : decode (m_by y) pc = .ok (.ior, 1)) (h : m_P l D K B d mc ms y p e s m args below meth c Q (pc + 1) ls (mI (m_or a b) :: st) H k n) : m_P l D K B d mc ms y p e s m args below meth c Q pc ls (mI b :: mI a :: st) H k n := by
  intro hk Hr locs lsr hP hS hl
  refine lv_ior hc.1 hc.2.1 hd ?_
  rw [← m_of_toInt (_ ||| _)]
  exact h hk Hr locs lsr hP hS hl
theorem s_ixor (hc : m_ctx D K B kh y p s m args meth c) {a b : Int} (hd : decode (m_by y) pc = .ok (.ixor, 1)) (h : m_P l D K B d mc ms y p e s m args below meth c Q (pc + 1) ls (mI (m_xor a b) :: st) H k n) : m_P l D K B d mc ms y p e s m args below meth c Q pc ls (mI b :: mI a :: st) H k n := by
  intro hk Hr locs lsr hP hS hl
  refine lv_ixor hc.1 hc.2.1 hd ?_
  rw [← m_of_toInt (_ ^^^ _)]
  exact h hk Hr locs lsr hP hS hl
theorem s_ishl (hc : m_ctx D K B kh y p s m args meth c) {a b : Int} (hd : decode (m_by y) pc = .ok (.ishl, 1)) (h : m_P l D K B d mc ms y p e s m args below meth c Q (pc + 1) ls (mI (m_shl a b) :: st) H k n) : m_P l D K B d mc ms y p e s m args below meth c Q pc ls (mI b :: mI a :: st) H k n := by
  intro hk Hr locs lsr hP hS hl
  refine lv_ishl hc.1 hc.2.1 hd ?_
  rw [← m_of_toInt (_ <<< _)]
  exact h hk Hr locs lsr hP hS hl
theorem s_ishr (hc : m_ctx D K B kh y p s m args meth c) {a b : Int} (hd : decode (m_by y) pc = .ok (.ishr, 1)) (h : m_P l D K B d mc ms y p e s m args below meth c Q (pc + 1) ls (mI (m_shr a b) :: st) H k n) : m_P l D K B d mc ms y p e s m args below meth c Q pc ls (mI b :: mI a :: st) H k n := by
  intro hk Hr locs lsr hP hS hl
  refine lv_ishr hc.1 hc.2.1 hd ?_
  rw [← m_of_toInt (_ >>> _)]
  exact h hk Hr locs lsr hP hS hl
theorem s_iushr (hc : m_ctx D K B kh y p s m args meth c) {a b : Int} (hd : decode (m_by y) pc = .ok (.iushr, 1)) (h : m_P l D K B d mc ms y p e s m args below meth c Q (pc + 1) ls (mI (m_ushr a b) :: st) H k n) : m_P l D K B d mc ms y p e s m args below meth c Q pc ls (mI b :: mI a :: st) H k n :=
  fun hk Hr locs lsr hP hS hl => lv_iushr (v := Int32.ofInt (m_ushr a b)) hc.1 hc.2.1 hd (m_of_toInt _).symm (h hk Hr locs lsr hP hS hl)
theorem s_dup (hc : m_ctx D K B kh y p s m args meth c) {v : mV} (hd : decode (m_by y) pc = .ok (.dup, 1)) (h : m_P l D K B d mc ms y p e s m args below meth c Q (pc + 1) ls (v :: v :: st) H k n) : m_P l D K B d mc ms y p e s m args below meth c Q pc ls (v :: st) H k n :=
  fun hk Hr locs lsr hP hS hl => lv_dup hc.1 hc.2.1 hd (m_enc_cat B v) (h hk Hr locs lsr hP hS hl)
theorem s_dup2 (hc : m_ctx D K B kh y p s m args meth c) {v w : mV} (hd : decode (m_by y) pc = .ok (.dup2, 1)) (h : m_P l D K B d mc ms y p e s m args below meth c Q (pc + 1) ls (v :: w :: v :: w :: st) H k n) : m_P l D K B d mc ms y p e s m args below meth c Q pc ls (v :: w :: st) H k n :=
  fun hk Hr locs lsr hP hS hl => lv_dup2_11 hc.1 hc.2.1 hd (m_enc_cat B v) (m_enc_cat B w) (h hk Hr locs lsr hP hS hl)
theorem s_goto (hc : m_ctx D K B kh y p s m args meth c) {off : Int} {tgt : Nat} (hd : decode (m_by y) pc = .ok (.goto off, 3)) (ht : (pc : Int) + off = (tgt : Int)) (h : m_P l D K B d mc ms y p e s m args below meth c Q tgt ls st H k n) : m_P l D K B d mc ms y p e s m args below meth c Q pc ls st H k n :=
  fun hk Hr locs lsr hP hS hl => lv_goto hc.1 hc.2.1 hd ht (h hk Hr locs lsr hP hS hl)
theorem s_if (hc : m_ctx D K B kh y p s m args meth c) {cd : ClassFile.Cond} {off a : Int} {tgt : Nat} (hd : decode (m_by y) pc = .ok (.ifCond cd off, 3)) (ht : (pc : Int) + off = (tgt : Int)) (ha : m_in a = true) (h1 : m_cmp cd a 0 = true → m_P l D K B d mc ms y p e s m args below meth c Q tgt ls st H k n) (h2 : m_cmp cd a 0 = false → m_P l D K B d mc ms y p e s m args below meth c Q (pc + 3) ls st H k n) : m_P l D K B d mc ms y p e s m args below meth c Q pc ls (mI a :: st) H k n := by
  intro hk Hr locs lsr hP hS hl
  have j1 := fun q => h1 q hk Hr locs lsr hP hS hl
  have j2 := fun q => h2 q hk Hr locs lsr hP hS hl
  have e0 : (Int32.ofInt a = 0) ↔ a = 0 := by rw [← m_of0]; exact m_eq ha m_in0
  have e1 : (Int32.ofInt a < 0) ↔ a < 0 := by rw [← m_of0]; exact m_lt ha m_in0
  have e2 : (0 ≤ Int32.ofInt a) ↔ 0 ≤ a := by rw [← m_of0]; exact m_le m_in0 ha
  have e3 : (0 < Int32.ofInt a) ↔ 0 < a := by rw [← m_of0]; exact m_lt m_in0 ha
  have e4 : (Int32.ofInt a ≤ 0) ↔ a ≤ 0 := by rw [← m_of0]; exact m_le ha m_in0
  cases cd with
  | eq => exact lv_if_eq hc.1 hc.2.1 hd ht (fun q => j1 (by simpa [m_cmp] using e0.mp q)) (fun q => j2 (by simpa [m_cmp] using fun z => q (e0.mpr z)))
  | ne => exact lv_if_ne hc.1 hc.2.1 hd ht (fun q => j1 (by simpa [m_cmp] using fun z => q (e0.mpr z))) (fun q => j2 (by simpa [m_cmp] using e0.mp q))
  | lt => exact lv_if_lt hc.1 hc.2.1 hd ht (fun q => j1 (by simpa [m_cmp] using e1.mp q)) (fun q => j2 (by have := mt e1.mpr q; simp [m_cmp]; omega))
  | ge => exact lv_if_ge hc.1 hc.2.1 hd ht (fun q => j1 (by simpa [m_cmp] using e2.mp q)) (fun q => j2 (by have := mt e2.mpr q; simp [m_cmp]; omega))
  | gt => exact lv_if_gt hc.1 hc.2.1 hd ht (fun q => j1 (by simpa [m_cmp] using e3.mp q)) (fun q => j2 (by have := mt e3.mpr q; simp [m_cmp]; omega))
  | le => exact lv_if_le hc.1 hc.2.1 hd ht (fun q => j1 (by simpa [m_cmp] using e4.mp q)) (fun q => j2 (by have := mt e4.mpr q; simp [m_cmp]; omega))
theorem s_icmp (hc : m_ctx D K B kh y p s m args meth c) {cd : ClassFile.Cond} {off a b : Int} {tgt : Nat} (hd : decode (m_by y) pc = .ok (.if_icmp cd off, 3)) (ht : (pc : Int) + off = (tgt : Int)) (ha : m_in a = true) (hb : m_in b = true) (h1 : m_cmp cd a b = true → m_P l D K B d mc ms y p e s m args below meth c Q tgt ls st H k n) (h2 : m_cmp cd a b = false → m_P l D K B d mc ms y p e s m args below meth c Q (pc + 3) ls st H k n) : m_P l D K B d mc ms y p e s m args below meth c Q pc ls (mI b :: mI a :: st) H k n := by
  intro hk Hr locs lsr hP hS hl
  have j1 := fun q => h1 q hk Hr locs lsr hP hS hl
  have j2 := fun q => h2 q hk Hr locs lsr hP hS hl
  have e0 := m_eq ha hb
  have e1 := m_lt ha hb
  have e2 := m_le hb ha
  have e3 := m_lt hb ha
  have e4 := m_le ha hb
  cases cd with
  | eq => exact lv_icmp_eq hc.1 hc.2.1 hd ht (fun q => j1 (by simpa [m_cmp] using e0.mp q)) (fun q => j2 (by simpa [m_cmp] using fun z => q (e0.mpr z)))
  | ne => exact lv_icmp_ne hc.1 hc.2.1 hd ht (fun q => j1 (by simpa [m_cmp] using fun z => q (e0.mpr z))) (fun q => j2 (by simpa [m_cmp] using e0.mp q))
  | lt => exact lv_icmp_lt hc.1 hc.2.1 hd ht (fun q => j1 (by simpa [m_cmp] using e1.mp q)) (fun q => j2 (by have := mt e1.mpr q; simp [m_cmp]; omega))
  | ge => exact lv_icmp_ge hc.1 hc.2.1 hd ht (fun q => j1 (by simpa [m_cmp] using e2.mp q)) (fun q => j2 (by have := mt e2.mpr q; simp [m_cmp]; omega))
  | gt => exact lv_icmp_gt hc.1 hc.2.1 hd ht (fun q => j1 (by simpa [m_cmp] using e3.mp q)) (fun q => j2 (by have := mt e3.mpr q; simp [m_cmp]; omega))
  | le => exact lv_icmp_le hc.1 hc.2.1 hd ht (fun q => j1 (by simpa [m_cmp] using e4.mp q)) (fun q => j2 (by have := mt e4.mpr q; simp [m_cmp]; omega))
theorem s_table (hc : m_ctx D K B kh y p s m args meth c) {dflt lo hi a : Int} {offs : Array Int} {len tgt : Nat} (hd : decode (m_by y) pc = .ok (.tableswitch dflt lo hi offs, len)) (ha : m_in a = true) (ht : (if a < lo ∨ hi < a then m_jmp pc dflt else (offs[(a - lo).toNat]?).bind (m_jmp pc)) = some tgt) (h : m_P l D K B d mc ms y p e s m args below meth c Q tgt ls st H k n) : m_P l D K B d mc ms y p e s m args below meth c Q pc ls (mI a :: st) H k n := by
  intro hk Hr locs lsr hP hS hl
  have j := h hk Hr locs lsr hP hS hl
  have jm : ∀ (off : Int), m_jmp pc off = some tgt → (pc : Int) + off = (tgt : Int) := by
    intro off q
    unfold m_jmp at q
    split at q
    · cases q
      omega
    · cases q
  split at ht
  · exact lv_tableOut hc.1 hc.2.1 hd (by rw [m_toInt ha]; assumption) (jm _ ht) j
  · rename_i hno
    obtain ⟨off, h1, h2⟩ := Option.bind_eq_some_iff.mp ht
    exact lv_tableIn (off := off) hc.1 hc.2.1 hd (by rw [m_toInt ha]; omega) (by rw [m_toInt ha]; omega) (by rw [m_toInt ha]; exact h1) (jm _ h2) j
theorem s_lookup (hc : m_ctx D K B kh y p s m args meth c) {dflt a : Int} {ps : Array (Int × Int)} {len tgt : Nat} (hd : decode (m_by y) pc = .ok (.lookupswitch dflt ps, len)) (ha : m_in a = true) (hp : (ps.toList.zip (ps.toList.drop 1)).all (fun (a, next) => a.1 < next.1) = true) (ht : m_jmp pc (Op.lookupswitch.offset ps.toList dflt a) = some tgt) (h : m_P l D K B d mc ms y p e s m args below meth c Q tgt ls st H k n) : m_P l D K B d mc ms y p e s m args below meth c Q pc ls (mI a :: st) H k n := by
  intro hk Hr locs lsr hP hS hl
  have j := h hk Hr locs lsr hP hS hl
  unfold m_jmp at ht
  split at ht
  · cases ht
    exact lv_lookup (off := Op.lookupswitch.offset ps.toList dflt a) hc.1 hc.2.1 hd hp (by rw [m_toInt ha]) (by omega) j
  · cases ht
theorem m_ld_enc {t : Nat} {v : Int} {w : mV} (h : m_ld t v = some w) : m_enc B w = m_encT B t v := by
  unfold m_ld at h
  split at h
  · split at h
    · cases h
    · cases h
      simp [m_enc, m_encT, *]
  · cases h
    simp [m_enc, m_encT, *]
theorem m_st_enc {t : Nat} {v : mV} {x : Int} (h : m_st t v = some x) : m_enc B v = m_encT B t x := by
  unfold m_st at h
  split at h
  · split at h
    · cases h
      simp [m_enc, m_encT, *]
    · split at h
      · split at h
        · cases h
          simp [m_enc, m_encT, *]
        · cases h
      · cases h
  · split at h
    · cases h
      simp [m_enc, m_encT, *]
    · cases h
  · cases h
theorem s_getfield (hc : m_ctx D K B kh y p s m args meth c) {x ci kf a t : Nat} {fs : List Int} {v : Int} {w : mV} (hd : decode (m_by y) pc = .ok (.getfield x, 3)) (hf : m_fl (m_own y) x = some (ci, kf)) (hH : H[a]? = some (ci, fs)) (hv : fs[kf]? = some v) (ht : (m_tagL ci)[kf]? = some t) (hw : m_ld t v = some w) (h : m_P l D K B d mc ms y p e s m args below meth c Q (pc + 3) ls (w :: st) H k n) : m_P l D K B d mc ms y p e s m args below meth c Q pc ls (mR a :: st) H k n := by
  intro hk Hr locs lsr hP hS hl
  obtain ⟨h8, hkN, hlk⟩ := m_fl_ok hf
  have hws : (m_ws B K H)[a]? = some (B + a, .inr (ci, m_encO B ci fs)) := by rw [m_ws_get hH]; simp [m_encC, h8]
  refine va_get (D := D) (ci := ci) (C := (m_C ci).1) (T := (m_C ci).2.1) (N := (m_C ci).2.2) hc.1 hc.2.1 hc.2.2.2.2.2.1 (m_in_ok h8) hc.2.2.2.2.1 hc.2.2.2.2.2.2.2.2.1.1 hP a hws (m_C_get h8) kf hkN (hc.2.2.2.2.2.1 _ hlk) (fun z hz => by rw [← (m_tag_at h8 hkN).2]; exact hz) (m_encO_get hv ht) hd ?_
  rw [← m_ld_enc hw]
  exact h hk Hr locs lsr hP hS hl
theorem m_fit0 {ty : FieldType} {v : mV} {x : Int} (hx : m_st (m_tg ty) v = some x) : narrow ty (m_enc B v) = m_enc B v ∧ fits ty (m_enc B v) = true := by
  cases ty with
  | int => match v, hx with
    | some (.inl z), _ => exact ⟨rfl, rfl⟩
    | some (.inr a), hx => simp [m_st, m_tg] at hx
    | none, hx => cases hx
  | boolean => match v, hx with
    | some (.inl z), hx =>
      simp only [m_st, m_tg] at hx
      split at hx
      · omega
      · split at hx
        · split at hx
          · rename_i q
            rcases q with rfl | rfl <;> exact ⟨rfl, rfl⟩
          · cases hx
        · cases hx
    | some (.inr a), hx => simp [m_st, m_tg] at hx
    | none, hx => cases hx
  | object nm => match v, hx with
    | some (.inl z), hx => simp [m_st, m_tg] at hx
    | some (.inr a), hx => exact ⟨rfl, rfl⟩
    | none, hx => cases hx
  | array tt => match v, hx with
    | some (.inl z), hx => simp [m_st, m_tg] at hx
    | some (.inr a), hx => exact ⟨rfl, rfl⟩
    | none, hx => cases hx
  | _ => match v, hx with
    | some (.inl z), hx => simp [m_st, m_tg] at hx
    | some (.inr a), hx => simp [m_st, m_tg] at hx
    | none, hx => cases hx
theorem m_fitT {ci kf t : Nat} (h8 : ci < 8) (hkN : kf < (m_C ci).2.2) (ht : (m_tagL ci)[kf]? = some t) {v : mV} {x : Int} (hx : m_st t v = some x) : narrow (m_ty ci kf) (m_enc B v) = m_enc B v ∧ fits (m_ty ci kf) (m_enc B v) = true := by
  have h1 := (m_tag_at h8 hkN).1
  rw [ht] at h1
  have h2 : t = m_tg (m_ty ci kf) := Option.some.inj h1
  rw [h2] at hx
  exact m_fit0 hx
theorem s_putfield (hc : m_ctx D K B kh y p s m args meth c) {x ci kf a t : Nat} {fs : List Int} {v : mV} {w : Int} (hd : decode (m_by y) pc = .ok (.putfield x, 3)) (hf : m_fl (m_own y) x = some (ci, kf)) (hH : H[a]? = some (ci, fs)) (hkl : kf < fs.length) (hlen : fs.length = (m_C ci).2.2) (hfin : ((m_C ci).2.1 kf).2.2.2 = true → (m_nm y).name = "<init>" ∧ m_cR (m_own y) = (m_C ci).1) (ht : (m_tagL ci)[kf]? = some t) (hw : m_st t v = some w) (h : m_P l D K B d mc ms y p e s m args below meth c Q (pc + 3) ls st (m_set H a kf w) k n) : m_P l D K B d mc ms y p e s m args below meth c Q pc ls (v :: mR a :: st) H k n := by
  intro hk Hr locs lsr hP hS hl
  obtain ⟨h8, hkN, hlk⟩ := m_fl_ok hf
  have hws : (m_ws B K H)[a]? = some (B + a, .inr (ci, m_encO B ci fs)) := by rw [m_ws_get hH]; simp [m_encC, h8]
  obtain ⟨hn, hfit⟩ := m_fitT (B := B) h8 hkN ht hw
  have hkl' : kf < (m_encO B ci fs).length := by rw [m_encO_len (by rw [hlen, m_tag_len h8])]; exact hkl
  have hws' : m_ws B K (m_set H a kf w) = (m_ws B K H).set a (B + a, .inr (ci, (m_encO B ci fs).set kf (m_enc B v))) := by
    unfold m_set
    rw [m_ws_mod _ hH, m_st_enc hw, m_encO_set ht hkl]
    simp [m_encC, h8]
  have go : ∀ (H1 : Heap) (locs1 : List Loc), va_P D m_classes ((m_ws B K H).set a (B + a, .inr (ci, (m_encO B ci fs).set kf (m_enc B v)))) H1 → va_D (fun q => B ≤ q) ((m_ws B K H).set a (B + a, .inr (ci, (m_encO B ci fs).set kf (m_enc B v)))) → va_S (fun q => B ≤ q) s.heap H1 locs1 → W p l e (m_rm d mc ms) s m args below meth c H1 locs1 k n Q (F0 m (pc + 3) lsr (st.map (m_enc B))) := by
    intro H1 locs1 g1 g2 g3
    rw [← hws'] at g1
    exact h (by rw [m_set_len]; exact hk) H1 locs1 lsr g1 g3 hl
  by_cases hF : ((m_C ci).2.1 kf).2.2.2 = true
  · obtain ⟨hi1, hi2⟩ := hfin hF
    exact va_putF (D := D) (ci := ci) (ty := m_ty ci kf) (C := (m_C ci).1) (T := (m_C ci).2.1) (N := (m_C ci).2.2) hc.1 hc.2.1 hc.2.2.2.2.2.1 (m_in_ok h8) (m_ty ci) (m_ty_ok h8) (m_nm_ok h8) hc.2.2.2.2.1 hc.2.2.2.2.2.2.2.2.1.1 hP (m_ws_D B K H) hS a hws (m_C_get h8) kf hkN (hc.2.2.2.2.2.1 _ hlk) (fun z hz => by rw [← (m_tag_at h8 hkN).2]; exact hz) hF (by rw [hc.2.2.2.2.2.2.2.1]; exact hi1) (by rw [hi2]; exact (m_tag_at h8 hkN).2) (m_ty_ok h8 kf hkN) hn hfit hkl' hd go
  · exact va_put (D := D) (ci := ci) (ty := m_ty ci kf) (C := (m_C ci).1) (T := (m_C ci).2.1) (N := (m_C ci).2.2) hc.1 hc.2.1 hc.2.2.2.2.2.1 (m_in_ok h8) (m_ty ci) (m_ty_ok h8) (m_nm_ok h8) hc.2.2.2.2.1 hc.2.2.2.2.2.2.2.2.1.1 hP (m_ws_D B K H) hS a hws (m_C_get h8) kf hkN (hc.2.2.2.2.2.1 _ hlk) (fun z hz => by rw [← (m_tag_at h8 hkN).2]; exact hz) (by simpa using hF) (m_ty_ok h8 kf hkN) hn hfit hkl' hd go
end MS
end
section
/-! arrays, new cells, and the calls that no code of ours answers -/
theorem m_sum8 {B : Nat} (st : List mV) : ((st.map (m_enc B)).map fun v => v.category).sum = st.length := by
  induction st with
  | nil => rfl
  | cons v st ih =>
    simp only [List.map_cons, List.sum_cons, List.length_cons, m_enc_cat] at *
    omega
theorem m_getD {fs : List Int} {i : Nat} {v z : Int} (h : fs[i]? = some v) : fs.getD i z = v := by
  rw [List.getD_eq_getElem?_getD, h]; rfl
theorem m_updI {fs : List Int} {i : Nat} {v : Int} (hi : i < fs.length) : (fun j => Int32.ofInt ((fs.set i v).getD j 0)) = upd (fun j => Int32.ofInt (fs.getD j 0)) i (Int32.ofInt v) := by
  funext j
  unfold upd
  by_cases e : j = i
  · subst e
    rw [if_pos rfl, m_getD (v := v) (by simp [hi])]
  · rw [if_neg e]
    congr 1
    simp only [List.getD_eq_getElem?_getD]
    rw [List.getElem?_set_ne (Ne.symm e)]
theorem m_repl (N j : Nat) : (List.replicate N (0 : Int)).getD j 0 = 0 := by
  rw [List.getD_eq_getElem?_getD, List.getElem?_replicate]
  split <;> rfl
section MA
variable {l : Launch} {D : va_G} {K : mK} {B kh d mc ms y : Nat} {p : Program} {e : Env} {s : State} {m : MethodId} {args : Array Value} {below : List Frame} {meth : Method} {c : Code} {Q : State → Prop} {pc : Nat} {ls st : List mV} {H : mH} {k n : Nat}
theorem s_iaload (hc : m_ctx D K B kh y p s m args meth c) {a : Nat} {i v : Int} {fs : List Int} (hd : decode (m_by y) pc = .ok (.iaload, 1)) (hH : H[a]? = some (8, fs)) (hi : m_in i = true) (h0 : 0 ≤ i) (hv : fs[i.toNat]? = some v) (h : m_P l D K B d mc ms y p e s m args below meth c Q (pc + 1) ls (mI v :: st) H k n) : m_P l D K B d mc ms y p e s m args below meth c Q pc ls (mI i :: mR a :: st) H k n := by
  intro hk Hr locs lsr hP hS hl
  have hws : (m_ws B K H)[a]? = some (B + a, .inl (K.1, fs.length, .inl (fun j => Int32.ofInt (fs.getD j 0)))) := by rw [m_ws_get hH]; rfl
  refine va_iald hc.1 hc.2.1 hc.2.2.2.2.2.2.2.2.1.1 hP a 0 hws rfl (m_vin hi h0 (List.getElem?_eq_some_iff.mp hv).1) hd ?_
  rw [m_nat hi, m_getD hv]
  exact h hk Hr locs lsr hP hS hl
theorem s_baload (hc : m_ctx D K B kh y p s m args meth c) {a : Nat} {i v : Int} {fs : List Int} (hd : decode (m_by y) pc = .ok (.baload, 1)) (hH : H[a]? = some (9, fs)) (hi : m_in i = true) (h0 : 0 ≤ i) (hv : fs[i.toNat]? = some v) (h : m_P l D K B d mc ms y p e s m args below meth c Q (pc + 1) ls (mI v :: st) H k n) : m_P l D K B d mc ms y p e s m args below meth c Q pc ls (mI i :: mR a :: st) H k n := by
  intro hk Hr locs lsr hP hS hl
  have hws : (m_ws B K H)[a]? = some (B + a, .inl (K.2.1, fs.length, .inl (fun j => Int32.ofInt (fs.getD j 0)))) := by rw [m_ws_get hH]; rfl
  refine va_zald hc.1 hc.2.1 hc.2.2.2.2.2.2.2.2.1.1 hP a 1 hws rfl (m_vin hi h0 (List.getElem?_eq_some_iff.mp hv).1) hd ?_
  rw [m_nat hi, m_getD hv]
  exact h hk Hr locs lsr hP hS hl
theorem s_aaload (hc : m_ctx D K B kh y p s m args meth c) {a : Nat} {i v : Int} {w : mV} {fs : List Int} (hd : decode (m_by y) pc = .ok (.aaload, 1)) (hH : H[a]? = some (10, fs)) (hi : m_in i = true) (h0 : 0 ≤ i) (hv : fs[i.toNat]? = some v) (hw : m_ld 2 v = some w) (h : m_P l D K B d mc ms y p e s m args below meth c Q (pc + 1) ls (w :: st) H k n) : m_P l D K B d mc ms y p e s m args below meth c Q pc ls (mI i :: mR a :: st) H k n := by
  intro hk Hr locs lsr hP hS hl
  have hws : (m_ws B K H)[a]? = some (B + a, .inl (K.2.2, fs.length, .inr (.inr (.inr (.inr (fun j => if fs.getD j (-1) < 0 then none else some (B + (fs.getD j (-1)).toNat))))))) := by rw [m_ws_get hH]; rfl
  refine va_aldq (C := "QuiltPatches$Layout") hc.1 hc.2.1 hc.2.2.2.2.2.2.2.2.1.1 hP a 2 hws rfl (m_vin hi h0 (List.getElem?_eq_some_iff.mp hv).1) hd ?_
  rw [m_nat hi, m_getD hv]
  have := m_ld_enc (B := B) hw
  have e : va_rf (if v < 0 then none else some (B + v.toNat)) = m_enc B w := by
    rw [this]
    unfold m_encT
    by_cases hv0 : v < 0
    · simp [m_ld, hv0] at hw
    · simp [hv0, va_rf]
  rw [e]
  exact h hk Hr locs lsr hP hS hl
theorem s_iastore (hc : m_ctx D K B kh y p s m args meth c) {a : Nat} {i v : Int} {fs : List Int} (hd : decode (m_by y) pc = .ok (.iastore, 1)) (hH : H[a]? = some (8, fs)) (hi : m_in i = true) (h0 : 0 ≤ i) (hlt : i.toNat < fs.length) (h : m_P l D K B d mc ms y p e s m args below meth c Q (pc + 1) ls st (m_set H a i.toNat v) k n) : m_P l D K B d mc ms y p e s m args below meth c Q pc ls (mI v :: mI i :: mR a :: st) H k n := by
  intro hk Hr locs lsr hP hS hl
  have hws : (m_ws B K H)[a]? = some (B + a, .inl (K.1, fs.length, .inl (fun j => Int32.ofInt (fs.getD j 0)))) := by rw [m_ws_get hH]; rfl
  have hws' : m_ws B K (m_set H a i.toNat v) = (m_ws B K H).set a (B + a, .inl (K.1, fs.length, .inl (upd (fun j => Int32.ofInt (fs.getD j 0)) i.toNat (Int32.ofInt v)))) := by
    unfold m_set
    rw [m_ws_mod _ hH, ← m_updI hlt]
    simp [m_encC]
  refine va_iast hc.1 hc.2.1 hc.2.2.2.2.2.2.2.2.1.1 hP (m_ws_D B K H) hS a 0 hws rfl (m_vin hi h0 hlt) hd (fun H1 locs1 g1 g2 g3 => ?_)
  rw [m_nat hi, ← hws'] at g1
  exact h (by rw [m_set_len]; exact hk) H1 locs1 lsr g1 g3 hl
theorem s_bastore (hc : m_ctx D K B kh y p s m args meth c) {a : Nat} {i v : Int} {fs : List Int} (hd : decode (m_by y) pc = .ok (.bastore, 1)) (hH : H[a]? = some (9, fs)) (hi : m_in i = true) (h0 : 0 ≤ i) (hlt : i.toNat < fs.length) (hv : v = 0 ∨ v = 1) (h : m_P l D K B d mc ms y p e s m args below meth c Q (pc + 1) ls st (m_set H a i.toNat v) k n) : m_P l D K B d mc ms y p e s m args below meth c Q pc ls (mI v :: mI i :: mR a :: st) H k n := by
  intro hk Hr locs lsr hP hS hl
  have hws : (m_ws B K H)[a]? = some (B + a, .inl (K.2.1, fs.length, .inl (fun j => Int32.ofInt (fs.getD j 0)))) := by rw [m_ws_get hH]; rfl
  have hws' : m_ws B K (m_set H a i.toNat v) = (m_ws B K H).set a (B + a, .inl (K.2.1, fs.length, .inl (upd (fun j => Int32.ofInt (fs.getD j 0)) i.toNat (Int32.ofInt v)))) := by
    unfold m_set
    rw [m_ws_mod _ hH, ← m_updI hlt]
    simp [m_encC]
  have hnar : vp_nar .boolean (Int32.ofInt v) = Int32.ofInt v := by rcases hv with rfl | rfl <;> rfl
  refine va_zast hc.1 hc.2.1 hc.2.2.2.2.2.2.2.2.1.1 hP (m_ws_D B K H) hS a 1 hws rfl (m_vin hi h0 hlt) hd (fun H1 locs1 g1 g2 g3 => ?_)
  rw [m_nat hi, hnar, ← hws'] at g1
  exact h (by rw [m_set_len]; exact hk) H1 locs1 lsr g1 g3 hl
theorem s_aastore (hc : m_ctx D K B kh y p s m args meth c) {a b : Nat} {i : Int} {fs gs : List Int} (hd : decode (m_by y) pc = .ok (.aastore, 1)) (hH : H[a]? = some (10, fs)) (hb : H[b]? = some (2, gs)) (hi : m_in i = true) (h0 : 0 ≤ i) (hlt : i.toNat < fs.length) (h : m_P l D K B d mc ms y p e s m args below meth c Q (pc + 1) ls st (m_set H a i.toNat (b : Int)) k n) : m_P l D K B d mc ms y p e s m args below meth c Q pc ls (mR b :: mI i :: mR a :: st) H k n := by
  intro hk Hr locs lsr hP hS hl
  have hws : (m_ws B K H)[a]? = some (B + a, .inl (K.2.2, fs.length, .inr (.inr (.inr (.inr (fun j => if fs.getD j (-1) < 0 then none else some (B + (fs.getD j (-1)).toNat))))))) := by rw [m_ws_get hH]; rfl
  have hwb : (m_ws B K H)[b]? = some (B + b, .inr (2, m_encO B 2 gs)) := by rw [m_ws_get hb]; rfl
  have hws' : m_ws B K (m_set H a i.toNat (b : Int)) = (m_ws B K H).set a (B + a, .inl (K.2.2, fs.length, .inr (.inr (.inr (.inr (va_up (fun j => if fs.getD j (-1) < 0 then none else some (B + (fs.getD j (-1)).toNat)) i.toNat (some (B + b)))))))) := by
    unfold m_set
    rw [m_ws_mod _ hH]
    have e : (fun j => if (fs.set i.toNat (b : Int)).getD j (-1) < 0 then none else some (B + ((fs.set i.toNat (b : Int)).getD j (-1)).toNat)) = va_up (fun j => if fs.getD j (-1) < 0 then none else some (B + (fs.getD j (-1)).toNat)) i.toNat (some (B + b)) := by
      funext j
      unfold va_up
      by_cases e : j = i.toNat
      · rw [if_pos e, e, m_getD (v := (b : Int)) (by simp [hlt]), if_neg (by omega)]
        simp
      · rw [if_neg e]
        simp only [List.getD_eq_getElem?_getD]
        rw [List.getElem?_set_ne (Ne.symm e)]
    rw [← e]
    simp [m_encC]
  refine va_astq (r := m_C 2) hc.1 hc.2.1 hc.2.2.2.2.2.2.2.2.1.1 hP (m_ws_D B K H) hS a 2 b 2 hws rfl hwb (m_C_get (by decide)) (m_vin hi h0 hlt) hd (fun H1 locs1 g1 g2 g3 => ?_)
  rw [m_nat hi, ← hws'] at g1
  exact h (by rw [m_set_len]; exact hk) H1 locs1 lsr g1 g3 hl
theorem s_arraylength (hc : m_ctx D K B kh y p s m args meth c) {a kd : Nat} {fs : List Int} (hd : decode (m_by y) pc = .ok (.arraylength, 1)) (hH : H[a]? = some (kd, fs)) (hkd : kd = 8 ∨ kd = 9 ∨ kd = 10) (h : m_P l D K B d mc ms y p e s m args below meth c Q (pc + 1) ls (mI (fs.length : Int) :: st) H k n) : m_P l D K B d mc ms y p e s m args below meth c Q pc ls (mR a :: st) H k n := by
  intro hk Hr locs lsr hP hS hl
  have j := h hk Hr locs lsr hP hS hl
  rcases hkd with rfl | rfl | rfl
  · have hws : (m_ws B K H)[a]? = some (B + a, .inl (K.1, fs.length, .inl (fun j => Int32.ofInt (fs.getD j 0)))) := by rw [m_ws_get hH]; rfl
    exact va_alen hc.1 hc.2.1 hc.2.2.2.2.2.2.2.2.1.1 hP a 0 hws (ty := .int) rfl (v := Int32.ofInt (fs.length : Int)) rfl hd j
  · have hws : (m_ws B K H)[a]? = some (B + a, .inl (K.2.1, fs.length, .inl (fun j => Int32.ofInt (fs.getD j 0)))) := by rw [m_ws_get hH]; rfl
    exact va_alen hc.1 hc.2.1 hc.2.2.2.2.2.2.2.2.1.1 hP a 1 hws (ty := .boolean) rfl (v := Int32.ofInt (fs.length : Int)) rfl hd j
  · have hws : (m_ws B K H)[a]? = some (B + a, .inl (K.2.2, fs.length, .inr (.inr (.inr (.inr (fun j => if fs.getD j (-1) < 0 then none else some (B + (fs.getD j (-1)).toNat))))))) := by rw [m_ws_get hH]; rfl
    exact va_alen hc.1 hc.2.1 hc.2.2.2.2.2.2.2.2.1.1 hP a 2 hws (ty := .object "QuiltPatches$Layout") rfl (v := Int32.ofInt (fs.length : Int)) rfl hd j
theorem m_fresh {q n' : Nat} {E : va_E} {T : State} {H1 : Heap} {locs : List Loc} (hk : s.heap.size + k = B + H.length) (gP : va_P D m_classes (m_ws B K H ++ [(q, E)]) H1) (gD : va_D (fun q => B ≤ q) (m_ws B K H ++ [(q, E)])) (hT : T.heap = H1) (X : Stand p l e (m_rm d mc ms) s m args below meth c T locs (k + 1) n') : q = B + H.length := by
  have hlen : (m_ws B K H).length = H.length := by simp [m_ws]
  have hg : (m_ws B K H ++ [(q, E)])[H.length]? = some (q, E) := by
    rw [List.getElem?_append_right (by omega), hlen, Nat.sub_self]
    rfl
  have h1 : B ≤ q := gD.2 _ _ hg
  have h2 : q < H1.size := (gP _ _ hg).lt
  have h3 := X.heapSize
  rw [hT] at h3
  by_cases h4 : q < B + H.length
  · have h5 : q - B < H.length := by omega
    have h6 : (m_ws B K H ++ [(q, E)])[q - B]? = some (B + (q - B), m_encC B K H[q - B]) := by
      rw [List.getElem?_append_left (by omega)]
      exact m_ws_get (List.getElem?_eq_getElem h5)
    have h7 := gD.1 _ _ _ _ h6 hg (by simp only; omega)
    omega
  · omega
theorem s_new (hc : m_ctx D K B kh y p s m args meth c) {x ci : Nat} (hd : decode (m_by y) pc = .ok (.new x, 3)) (hx : m_cl (m_own y) x = some ci) (hkc : k + 1 ≤ mc) (hns : n + (m_C ci).2.2 ≤ ms) (h : m_P l D K B d mc ms y p e s m args below meth c Q (pc + 3) ls (mR H.length :: st) (H ++ [(ci, m_def ci)]) (k + 1) (n + (m_C ci).2.2)) : m_P l D K B d mc ms y p e s m args below meth c Q pc ls st H k n := by
  intro hk Hr locs lsr hP hS hl
  obtain ⟨h8, hlk⟩ := m_cl_ok hx
  obtain ⟨hi1, hi2⟩ := m_ins_ok h8
  have hts := hc.2.2.2.2.2.1
  have hfs : ∀ j, j < (m_C ci).2.2 → defaultValue (m_ty ci j) = vp_V (m_encO B ci (m_def ci)) j := by
    intro j hj
    have ht := (m_tag_at h8 hj).1
    have hv : (m_def ci)[j]? = some (if m_tg (m_ty ci j) = 2 then -1 else 0) := by
      unfold m_def
      rw [List.getElem?_map, ht]
      rfl
    unfold vp_V
    rw [List.getD_eq_getElem?_getD, m_encO_get hv ht]
    have hok : m_tg (m_ty ci j) ≠ 3 := by
      have h1 : ((List.range 8).all (fun ci => (List.range (m_C ci).2.2).all (fun j => m_tg (m_ty ci j) != 3))) = true := by decide +kernel
      have h2 := List.all_eq_true.mp (List.all_eq_true.mp h1 ci (List.mem_range.mpr h8)) j (List.mem_range.mpr hj)
      simpa using h2
    generalize m_ty ci j = ty at hok ⊢
    cases ty <;> first | rfl | exact absurd rfl hok
  refine va_new (ci := ci) (fs := m_encO B ci (m_def ci)) (C := (m_C ci).1) (T := (m_C ci).2.1) (N := (m_C ci).2.2) hc.1 hc.2.1 hts (m_in_ok h8) (m_ty ci) (m_ty_ok h8) hc.2.2.2.2.1 (hts _ hlk) (hts _ hi1) (hts _ hi2) hc.2.2.2.2.2.2.2.2.1.1 hP (m_ws_D B K H) hS (fun q hq => Nat.le_trans hc.2.2.2.2.2.2.2.2.2 hq) (m_C_get h8) hfs hkc hns hd (fun q H1 g1 g2 g3 => ?_)
  intro T hT X
  have hq := m_fresh hk g1 g2 hT X
  subst hq
  have g1' : va_P D m_classes (m_ws B K (H ++ [(ci, m_def ci)])) H1 := by
    rw [m_ws_app]
    simpa [m_encC, h8] using g1
  exact h (by rw [List.length_append]; simp; omega) H1 locs lsr g1' g3 hl T hT X
theorem m_cA {cA : ClassId} {ty : FieldType} {t0 : Nat} (hK : va_K D m_classes (m_tys K) s) (hK1 : va_K D m_classes (m_tys K ++ [(cA, ty)]) s) {cB : ClassId} (ht : (m_tys K)[t0]? = some (cB, ty)) : cA = cB := by
  have h1 := (hK.2 t0 _ ht).2
  have h2 := (hK1.2 3 (cA, ty) (by simp [m_tys])).2
  unfold va_RA at h1 h2
  cases ty <;> simp only at h1 h2
  all_goals first | exact Option.some.inj (h2.symm.trans h1) | skip
  obtain ⟨_, _, _, _, _, h3⟩ := h1
  obtain ⟨_, _, _, _, _, h4⟩ := h2
  exact Option.some.inj (h4.symm.trans h3)
theorem s_newI (hc : m_ctx D K B kh y p s m args meth c) {x : Int} (hd : decode (m_by y) pc = .ok (.newarray .int, 2)) (hx : 0 ≤ x ∧ x ≤ 100000) (hkc : k + 1 ≤ mc) (hns : n + x.toNat ≤ ms) (h : m_P l D K B d mc ms y p e s m args below meth c Q (pc + 2) ls (mR H.length :: st) (H ++ [(8, List.replicate x.toNat 0)]) (k + 1) (n + x.toNat)) : m_P l D K B d mc ms y p e s m args below meth c Q pc ls (mI x :: st) H k n := by
  intro hk Hr locs lsr hP hS hl
  have hin : m_in x = true := by rw [m_in_iff]; omega
  have hts := hc.2.2.2.2.2.1
  have hK := hc.2.2.2.2.2.2.2.2.1.1
  refine va_newa (atype := .int) hc.1 hc.2.1 (hts (.arrayClass .int) (m_at_in (i := 112) (by decide +kernel))) (ty := .int) rfl hK hP (m_ws_D B K H) hS (fun q hq => Nat.le_trans hc.2.2.2.2.2.2.2.2.2 hq) (N' := x.toNat) (a0 := (x.toNat, .inl (fun j => Int32.ofInt ((List.replicate x.toNat (0 : Int)).getD j 0)))) (fun cA => ?_) (m_nneg hin hx.1) (m_nat hin) (by show x.toNat * 4 ≤ _; omega) hkc hns hd (fun q cA H1 gK g1 g2 g3 => ?_)
  · rw [vp_cell_i]
    congr 1
    funext j
    rw [m_repl]
    rfl
  · intro T hT X
    have hq := m_fresh hk g1 g2 hT X
    have hcA := m_cA (t0 := 0) hK gK rfl
    subst hq; subst hcA
    have g1' : va_P D m_classes (m_ws B K (H ++ [(8, List.replicate x.toNat 0)])) H1 := by
      rw [m_ws_app]
      simpa [m_encC] using g1
    exact h (by rw [List.length_append]; simp; omega) H1 locs lsr g1' g3 hl T hT X
theorem s_newZ (hc : m_ctx D K B kh y p s m args meth c) {x : Int} (hd : decode (m_by y) pc = .ok (.newarray .boolean, 2)) (hx : 0 ≤ x ∧ x ≤ 100000) (hkc : k + 1 ≤ mc) (hns : n + x.toNat ≤ ms) (h : m_P l D K B d mc ms y p e s m args below meth c Q (pc + 2) ls (mR H.length :: st) (H ++ [(9, List.replicate x.toNat 0)]) (k + 1) (n + x.toNat)) : m_P l D K B d mc ms y p e s m args below meth c Q pc ls (mI x :: st) H k n := by
  intro hk Hr locs lsr hP hS hl
  have hin : m_in x = true := by rw [m_in_iff]; omega
  have hts := hc.2.2.2.2.2.1
  have hK := hc.2.2.2.2.2.2.2.2.1.1
  refine va_newa (atype := .boolean) hc.1 hc.2.1 (hts (.arrayClass .boolean) (m_at_in (i := 224) (by decide +kernel))) (ty := .boolean) rfl hK hP (m_ws_D B K H) hS (fun q hq => Nat.le_trans hc.2.2.2.2.2.2.2.2.2 hq) (N' := x.toNat) (a0 := (x.toNat, .inl (fun j => Int32.ofInt ((List.replicate x.toNat (0 : Int)).getD j 0)))) (fun cA => ?_) (m_nneg hin hx.1) (m_nat hin) (by show x.toNat * 1 ≤ _; omega) hkc hns hd (fun q cA H1 gK g1 g2 g3 => ?_)
  · rw [vp_cell_i]
    congr 1
    funext j
    rw [m_repl]
    rfl
  · intro T hT X
    have hq := m_fresh hk g1 g2 hT X
    have hcA := m_cA (t0 := 1) hK gK rfl
    subst hq; subst hcA
    have g1' : va_P D m_classes (m_ws B K (H ++ [(9, List.replicate x.toNat 0)])) H1 := by
      rw [m_ws_app]
      simpa [m_encC] using g1
    exact h (by rw [List.length_append]; simp; omega) H1 locs lsr g1' g3 hl T hT X
theorem s_newL (hc : m_ctx D K B kh y p s m args meth c) {i : Nat} {x : Int} (hd : decode (m_by y) pc = .ok (.anewarray i, 3)) (hi : m_cl (m_own y) i = some 2) (hx : 0 ≤ x ∧ x ≤ 100000) (hkc : k + 1 ≤ mc) (hns : n + x.toNat ≤ ms) (h : m_P l D K B d mc ms y p e s m args below meth c Q (pc + 3) ls (mR H.length :: st) (H ++ [(10, List.replicate x.toNat (-1))]) (k + 1) (n + x.toNat)) : m_P l D K B d mc ms y p e s m args below meth c Q pc ls (mI x :: st) H k n := by
  intro hk Hr locs lsr hP hS hl
  have hin : m_in x = true := by rw [m_in_iff]; omega
  have hts := hc.2.2.2.2.2.1
  have hK := hc.2.2.2.2.2.2.2.2.1.1
  obtain ⟨-, hlk⟩ := m_cl_ok hi
  refine va_newq (C := "QuiltPatches$Layout") hc.1 hc.2.1 hc.2.2.2.2.1 (hts _ hlk) hc.2.2.2.2.2.2.2.2.1.2.1 hK hP (m_ws_D B K H) hS (fun q hq => Nat.le_trans hc.2.2.2.2.2.2.2.2.2 hq) (N' := x.toNat) (m_nneg hin hx.1) (m_nat hin) (by omega) hkc hns hd (fun q cA H1 gK g1 g2 g3 => ?_)
  intro T hT X
  have hq := m_fresh hk g1 g2 hT X
  have hcA := m_cA (t0 := 2) hK gK rfl
  subst hq; subst hcA
  have e : (fun _ => none : Nat → Option Nat) = (fun j => if (List.replicate x.toNat (-1 : Int)).getD j (-1) < 0 then none else some (B + ((List.replicate x.toNat (-1 : Int)).getD j (-1)).toNat)) := by
    funext j
    have : (List.replicate x.toNat (-1 : Int)).getD j (-1) = -1 := by
      rw [List.getD_eq_getElem?_getD, List.getElem?_replicate]
      split <;> rfl
    rw [this]
    rfl
  have g1' : va_P D m_classes (m_ws B K (H ++ [(10, List.replicate x.toNat (-1))])) H1 := by
    rw [m_ws_app]
    have e2 : m_encC B K (10, List.replicate x.toNat (-1)) = .inl (K.2.2, x.toNat, .inr (.inr (.inr (.inr (fun _ => none))))) := by
      rw [e]
      simp [m_encC]
    rw [e2]
    exact g1
  exact h (by rw [List.length_append]; simp; omega) H1 locs lsr g1' g3 hl T hT X
end MA
end
section
/-! calls and contracts -/
def m_w (y : Nat) : List Cond := .code (m_nm y) (m_by y) (m_mx y) (m_rt y) :: m_tbl
def m_Pc (D : va_G) (K : mK) (B kh : Nat) (av : List mV) (H : mH) : Array Value → State → Prop := va_Pc (av.map (m_enc B)) (fun U => U.heap.size = B + H.length ∧ va_P D m_classes (m_ws B K H) U.heap ∧ m_env D K B kh U U.heap)
def m_Qc (D : va_G) (K : mK) (B : Nat) (r : mV) (H' : mH) : Array Value → State → Outcome → State → Prop := fun _ st oc t => oc = .returned (r.map (fun w => m_enc B (some w))) ∧ t.heap.size = B + H'.length ∧ va_P D m_classes (m_ws B K H') t.heap ∧ va_F (fun q => B ≤ q) st t
def m_Met (l : Launch) (D : va_G) (K : mK) (B kh d mc ms y : Nat) (av : List mV) (H : mH) (r : mV) (H' : mH) : Prop := Met l (m_nm y) (m_w y) (m_rm d mc ms) (m_Pc D K B kh av H) (m_Qc D K B r H') mc ms (fun q => B ≤ q)
theorem m_good_w {y : Nat} (h : y < 163) : GoodIn m_tbl (m_w y) := by
  intro w hw
  have h1 : w ∈ m_tbl := by
    rcases List.mem_cons.mp hw with rfl | hw
    · exact m_code_in h
    · exact hw
  exact ⟨h1, m_tbl_good h1⟩
theorem m_cR_C {o : Nat} (h : o < 8) : m_cR o = (m_C o).1 := by
  match o, h with
  | 0, _ => rfl
  | 1, _ => rfl
  | 2, _ => rfl
  | 3, _ => rfl
  | 4, _ => rfl
  | 5, _ => rfl
  | 6, _ => rfl
  | 7, _ => rfl
theorem m_mok_spec {y : Nat} (h : y < 163) : plainName (m_nm y).cls = true ∧ m_mx y ≤ 40 ∧ m_na y ≤ m_mx y ∧ (m_nm y).cls = m_cR (m_own y) ∧ (m_rt y = none ∨ m_rt y = some .int ∨ m_rt y = some .boolean) ∧ (m_nm y).cls ≠ "java/lang/invoke/MethodHandle" ∧ (m_nm y).cls ≠ "java/lang/invoke/VarHandle" := by
  have h1 := m_mok_at h
  simp only [m_mok, Bool.and_eq_true, Bool.or_eq_true, decide_eq_true_eq] at h1
  obtain ⟨⟨⟨⟨⟨⟨⟨-, a1⟩, a2⟩, a3⟩, a4⟩, a5⟩, a6⟩, a7⟩ := h1
  refine ⟨a1, a2, a3, a4, ?_, a6, a7⟩
  rcases a5 with (a5 | a5) | a5
  · exact Or.inl a5
  · exact Or.inr (Or.inl a5)
  · exact Or.inr (Or.inr a5)
theorem m_lg_len {B : Nat} (av : List mV) : (lg_sl (av.map (m_enc B))).length = av.length := by
  induction av with
  | nil => rfl
  | cons v av ih =>
    unfold lg_sl at ih ⊢
    simp only [List.map_cons, List.flatMap_cons, m_enc_cat, List.length_append, List.length_cons, ih]
    simp
    omega
theorem m_args_in {B : Nat} : ∀ (av : List mV) (i j : Nat) (v : mV), av[j]? = some v → (i + j, m_enc B v) ∈ lv_args i (av.map (m_enc B))
  | [], i, j, v, h => by simp at h
  | a :: av, i, j, v, h => by
    simp only [List.map_cons, lv_args, m_enc_cat]
    cases j with
    | zero =>
      simp at h
      subst h
      exact List.mem_cons_self
    | succ j =>
      have := m_args_in (B := B) av (i + 1) j v (by simpa using h)
      refine List.mem_cons_of_mem _ ?_
      simpa [Nat.add_assoc, Nat.add_comm 1 j] using this
theorem m_met_of {l : Launch} {D : va_G} {K : mK} {B kh d mc ms y : Nat} {av : List mV} {H : mH} {r : mV} {H' : mH} (hy : y < 163) (ha : av.length = m_na y)
    (h : ∀ (p : Program) (e : Env) (s : State) (m : MethodId) (A : Array Value) (below : List Frame) (meth : Method) (c : Code), m_ctx D K B kh y p s m A meth c → m_P l D K B d mc ms y p e s m A below meth c (MQ below (m_Qc D K B r H') A s mc ms (fun q => B ≤ q)) 0 (av ++ List.replicate (m_mx y - m_na y) none) [] H 0 0) : m_Met l D K B kh d mc ms y av H r H' := by
  obtain ⟨hpl, -, hna, hcl, -⟩ := m_mok_spec hy
  refine Met.ofW (cc := m_by y) (maxL := m_mx y) (ret := m_rt y) hpl rfl ?_
  intro p e s m A below meth c s₁ Bd hml hv
  obtain ⟨rfl, hz, hP, hE⟩ := hv
  have hts := atoms_spec (ws := m_w y) Bd.pre
  have hctx : m_ctx D K B kh y p s m (av.map (m_enc B)).toArray meth c := ⟨Bd.exec, Bd.bytes, Bd.returns, hml, hcl ▸ findClass_of_methodNamed Bd.named, fun w hw => hts w (List.mem_cons_of_mem _ hw), Bd.notSynchronized, (name_of_methodNamed Bd.named Bd.method).1, hE, by omega⟩
  rw [lg_entry_eq]
  have hl := lv_entry (av.map (m_enc B)) (n := m_mx y) (by rw [m_lg_len, ha]; exact hna)
  refine h p e s m _ below meth c hctx (by omega) s.heap [] _ hP va_S.rf (m_lv_of hl (fun i w hi => ?_))
  by_cases h1 : i < av.length
  · rw [List.getElem?_append_left h1] at hi
    have := m_args_in (B := B) av 0 i _ hi
    simpa using this
  · rw [List.getElem?_append_right (by omega), List.getElem?_replicate] at hi
    split at hi <;> cases hi
theorem m_blind {D : va_G} {K : mK} {B kh : Nat} {av : List mV} {H : mH} : FrameBlind (m_Pc D K B kh av H) := by
  intro a U g mk q
  obtain ⟨q0, q1, qP, qE⟩ := q
  exact ⟨q0, q1, qP, m_env_go (U := U.calling g mk a) qE (State.WarmedH.refl U) (fun _ _ _ => rfl) (by omega)⟩
theorem m_nest_of {U : State} (h : m_nests U) {o x k z : Nat} (hm : m_ml o x = some (k, z)) (hk : k = 3 ∨ k = 4) : va_Nw (.methodLinkNest (m_cR o) x (m_nm z) "QuiltPatches") U := by
  unfold m_ml at hm
  cases hf : m_mls.find? (fun q => q.1 == o && q.2.1 == x) with
  | none => rw [hf] at hm; cases hm
  | some q =>
    rw [hf] at hm
    have h2 := List.find?_some hf
    have h3 := h q (List.mem_of_find?_eq_some hf)
    obtain ⟨a, b, c2, d, p1, p2, p3, p4⟩ := q
    simp only [Bool.and_eq_true, beq_iff_eq] at h2
    obtain ⟨rfl, rfl⟩ := h2
    cases hm
    exact h3 hk
section MC
variable {l : Launch} {D : va_G} {K : mK} {B kh d mc ms y : Nat} {p : Program} {e : Env} {s : State} {m : MethodId} {args : Array Value} {below : List Frame} {meth : Method} {c : Code} {Q : State → Prop} {pc : Nat} {ls st : List mV} {H : mH} {k n : Nat}
/-- what is left on the stack behind a call -/
def m_push (r : mV) (rest : List mV) : List mV := (match r with
  | none => []
  | some v => [some v]) ++ rest
theorem m_push_enc (r : mV) (rest : List mV) : (m_push r rest).map (m_enc B) = (r.map (fun w => m_enc B (some w))).toList ++ rest.map (m_enc B) := by
  cases r <;> rfl
/-- behind a call, whatever its kind -/
theorem m_after {mc' ms' : Nat} {r : mV} {H1 : mH} {rest : List mV} {a : Array Value} {stv : List Value} {Hr : Heap} {locs : List Loc} {lsr : Array Slot} (hB : B ≤ s.heap.size) (hk : s.heap.size + k = B + H.length) (hlen : H1.length = H.length + mc') (hS : va_S (fun q => B ≤ q) s.heap Hr locs) (hl : m_lv B (m_mx y) ls lsr)
    (hr : va_Run p l e (m_rm (d + 1) mc ms) s m args below meth c Hr locs k n mc' ms' (F0 m pc lsr stv) (rest.map (m_enc B)) (m_Qc D K B r H1 a) (fun q => B ≤ q)) (h : m_P l D K B (d + 1) mc ms y p e s m args below meth c Q (pc + 3) ls (m_push r rest) H1 (k + mc') (n + ms')) {T : State} (hT : T.heap = Hr) (X : Stand p l e (m_rm (d + 1) mc ms) s m args below meth c T locs k n) : ∃ t, Steps p.tables e below (T.setTop (F0 m pc lsr stv)) t ∧ Q t := by
  obtain ⟨v, st₀, t, T', L, h0, X', hL, e1, e2, ⟨hv, hz1, hP1, hF1, hF2⟩, go⟩ := hr T hT X
  cases hv
  rw [h0] at hF1 hF2
  rw [← e1] at hz1 hP1 hF1 hF2
  have hS' : va_S (fun q => B ≤ q) s.heap T'.heap (locs ++ L) := by
    refine ⟨Nat.le_trans hS.1 hF1, fun q h1 h2 => ?_, fun q hq => ?_⟩
    · rw [hF2 q (Nat.lt_of_lt_of_le h1 hS.1) h2]
      exact hS.2.1 q h1 h2
    · rcases List.mem_append.mp hq with g | g
      · exact hS.2.2 q g
      · exact hL q g
  obtain ⟨t2, a1, b1⟩ := h (by omega) T'.heap (locs ++ L) lsr hP1 hS' hl T' rfl X'
  rw [m_push_enc] at a1
  exact ⟨t2, go t2 a1, b1⟩
/-- the callee's start, at the call -/
theorem m_pre {av : List mV} {Hr : Heap} {locs : List Loc} (hc : m_ctx D K B kh y p s m args meth c) (hz : Hr.size = B + H.length) (hP : va_P D m_classes (m_ws B K H) Hr) (hS : va_S (fun q => B ≤ q) s.heap Hr locs) (U : State) (hU : U.heap = Hr) (hW : s.WarmedH U.vm) : m_Pc D K B kh av H (av.map (m_enc B)).toArray U := by
  refine ⟨rfl, by rw [hU]; exact hz, by rw [hU]; exact hP, ?_⟩
  rw [hU]
  exact m_env_go hc.2.2.2.2.2.2.2.2.1 hW hS.2.1 hc.2.2.2.2.2.2.2.2.2
theorem m_room {mc' ms' z : Nat} (hz : z < 163) : (m_rm d mc' ms').frames + 1 ≤ (m_rm (d + 1) mc ms).frames ∧ 8 + (m_mx z + 11) + (m_rm d mc' ms').locals ≤ (m_rm (d + 1) mc ms).locals := by
  have := (m_mok_spec hz).2.1
  simp only [m_rm]
  omega
theorem s_callV (hc : m_ctx D K B kh y p s m args meth c) {x z a mc' ms' : Nat} {fs : List Int} {av : List mV} {r : mV} {H1 : mH} (hm : m_ml (m_own y) x = some (0, z)) (hd : decode (m_by y) pc = .ok (.invokevirtual x, 3)) (hM : m_Met l D K B kh d mc' ms' z (mR a :: av) H r H1) (ha : H[a]? = some (m_own z, fs)) (hn : (mR a :: av).length = m_na z) (h8 : st.length ≤ 8) (hmc : k + mc' ≤ mc) (hms : n + ms' ≤ ms) (hlen : H1.length = H.length + mc') (h : m_P l D K B (d + 1) mc ms y p e s m args below meth c Q (pc + 3) ls (m_push r st) H1 (k + mc') (n + ms')) : m_P l D K B (d + 1) mc ms y p e s m args below meth c Q pc ls (av.reverse ++ mR a :: st) H k n := by
  intro hk Hr locs lsr hP hS hl T hT X
  have hz := m_size hk hP hS hc.2.2.2.2.2.2.2.2.2 hT X
  obtain ⟨p1, p2, p3, p4, hlok⟩ := m_ml_ok hm
  simp only [m_lok, Bool.and_eq_true, decide_eq_true_eq] at hlok
  obtain ⟨⟨⟨⟨⟨⟨⟨hz163, w1⟩, w2⟩, w3⟩, w4⟩, hpar⟩, hown8⟩, -⟩ := hlok
  obtain ⟨-, -, -, hcl, -, hn1, hn2⟩ := m_mok_spec hz163
  have hG : GoodIn m_tbl (wsV (m_cR (m_own y)) x (m_nm z).cls (m_nm z) (m_w z)) := by
    intro w hw
    unfold wsV at hw
    rcases List.mem_append.mp hw with hw | hw
    · have hw' : w ∈ m_tbl := by
        simp only [List.mem_cons, List.not_mem_nil, or_false] at hw
        rcases hw with rfl | rfl | rfl | rfl
        · exact m_at_in w1
        · exact m_at_in w2
        · exact m_at_in w3
        · exact m_at_in w4
      exact ⟨hw', m_tbl_good hw'⟩
    · exact m_good_w hz163 w hw
  have hws : (m_ws B K H)[a]? = some (B + a, .inr (m_own z, m_encO B (m_own z) fs)) := by rw [m_ws_get ha]; simp [m_encC, hown8]
  have hrecv := va_recv hc.2.2.2.2.2.2.2.2.1.1 hP (m_C_get hown8) hws
  rw [← m_cR_C hown8, ← hcl] at hrecv
  have hp0 : (parseMethodDescriptor (m_nm z).desc).map (fun d => d.parameters.length) = some av.length := by
    cases hq : parseMethodDescriptor (m_nm z).desc with
    | none => rw [hq] at hpar; cases hpar
    | some sg =>
      rw [hq] at hpar
      simp only [Option.map_some, Option.some.injEq] at hpar ⊢
      simp only [List.length_cons] at hn
      omega
  refine m_after hc.2.2.2.2.2.2.2.2.2 hk hlen hS hl (a := (m_enc B (mR a) :: av.map (m_enc B)).toArray) (va_runV (As := av.map (m_enc B)) (nL := m_mx y) (n := av.length) ⟨hc.1, hc.2.1, hc.2.2.2.1, hc.2.2.2.2.1, hc.2.2.2.2.2.1⟩ hM (cwV av.length hc.2.2.2.2.2.1 hG rfl rfl rfl ⟨rfl, hn1, hn2, hp0⟩ (m_room hz163)) ⟨m_blind, hrecv, fun U hU hW => m_pre hc hz hP hS U hU hW⟩ rfl (by simp) hl.1 (by simp [m_enc]) (lv_room (by rw [m_sum8]; exact h8)) hd ⟨hmc, hms⟩) h hT X
theorem s_callS (hc : m_ctx D K B kh y p s m args meth c) {x z mc' ms' : Nat} {av : List mV} {r : mV} {H1 : mH} (hm : m_ml (m_own y) x = some (1, z)) (hd : decode (m_by y) pc = .ok (.invokestatic x, 3)) (hM : m_Met l D K B kh d mc' ms' z av H r H1) (hn : av.length = m_na z) (h8 : st.length ≤ 8) (hmc : k + mc' ≤ mc) (hms : n + ms' ≤ ms) (hlen : H1.length = H.length + mc') (h : m_P l D K B (d + 1) mc ms y p e s m args below meth c Q (pc + 3) ls (m_push r st) H1 (k + mc') (n + ms')) : m_P l D K B (d + 1) mc ms y p e s m args below meth c Q pc ls (av.reverse ++ st) H k n := by
  intro hk Hr locs lsr hP hS hl T hT X
  have hz := m_size hk hP hS hc.2.2.2.2.2.2.2.2.2 hT X
  obtain ⟨p1, p2, p3, p4, hlok⟩ := m_ml_ok hm
  simp only [m_lok, Bool.and_eq_true, decide_eq_true_eq] at hlok
  obtain ⟨⟨⟨⟨hz163, w1⟩, w2⟩, w4⟩, hpar⟩ := hlok
  obtain ⟨-, -, -, hcl, -, hn1, hn2⟩ := m_mok_spec hz163
  have hG : GoodIn m_tbl (va_wsS (m_cR (m_own y)) x (m_nm z) (m_w z)) := by
    intro w hw
    unfold va_wsS at hw
    rcases List.mem_append.mp hw with hw | hw
    · have hw' : w ∈ m_tbl := by
        simp only [List.mem_cons, List.not_mem_nil, or_false] at hw
        rcases hw with rfl | rfl | rfl
        · exact m_at_in w1
        · exact m_at_in w2
        · exact m_at_in w4
      exact ⟨hw', m_tbl_good hw'⟩
    · exact m_good_w hz163 w hw
  rw [← hn] at hpar
  refine m_after hc.2.2.2.2.2.2.2.2.2 hk hlen hS hl (a := (av.map (m_enc B)).toArray) (va_runS (As := av.map (m_enc B)) (nL := m_mx y) (n := av.length) ⟨hc.1, hc.2.1, hc.2.2.2.1, hc.2.2.2.2.1, hc.2.2.2.2.2.1⟩ hM (va_cwS av.length hc.2.2.2.2.2.1 hG rfl rfl rfl ⟨hn1, hn2, hpar⟩ (m_room hz163)) ⟨m_blind, fun U hU hW => m_pre hc hz hP hS U hU hW⟩ rfl (by simp) hl.1 (by simp) (lv_room (by rw [m_sum8]; exact h8)) hd ⟨hmc, hms⟩) h hT X
theorem s_callSN (hc : m_ctx D K B kh y p s m args meth c) {x z mc' ms' : Nat} {av : List mV} {r : mV} {H1 : mH} (hm : m_ml (m_own y) x = some (3, z)) (hd : decode (m_by y) pc = .ok (.invokestatic x, 3)) (hM : m_Met l D K B kh d mc' ms' z av H r H1) (hn : av.length = m_na z) (h8 : st.length ≤ 8) (hmc : k + mc' ≤ mc) (hms : n + ms' ≤ ms) (hlen : H1.length = H.length + mc') (h : m_P l D K B (d + 1) mc ms y p e s m args below meth c Q (pc + 3) ls (m_push r st) H1 (k + mc') (n + ms')) : m_P l D K B (d + 1) mc ms y p e s m args below meth c Q pc ls (av.reverse ++ st) H k n := by
  intro hk Hr locs lsr hP hS hl T hT X
  have hz := m_size hk hP hS hc.2.2.2.2.2.2.2.2.2 hT X
  have hnw : va_Nw (.methodLinkNest (m_cR (m_own y)) x (m_nm z) "QuiltPatches") s := m_nest_of hc.2.2.2.2.2.2.2.2.1.2.2.1 hm (Or.inl rfl)
  obtain ⟨p1, p2, p3, p4, hlok⟩ := m_ml_ok hm
  simp only [m_lok, Bool.and_eq_true, decide_eq_true_eq] at hlok
  obtain ⟨⟨⟨⟨hz163, w1⟩, w2⟩, w4⟩, hpar⟩ := hlok
  obtain ⟨-, -, -, hcl, -, hn1, hn2⟩ := m_mok_spec hz163
  rw [← hn] at hpar
  have hts := hc.2.2.2.2.2.1
  refine m_after hc.2.2.2.2.2.2.2.2.2 hk hlen hS hl (a := (av.map (m_enc B)).toArray) (va_runSN (As := av.map (m_enc B)) (nL := m_mx y) (n := av.length) ⟨hc.1, hc.2.1, hc.2.2.2.1, hc.2.2.2.2.1, hts⟩ hM ⟨va_cnB av.length hts (m_good_w hz163) rfl rfl rfl hnw (hts _ (m_at_in w4)) ⟨hn1, hn2, hpar⟩ (m_room hz163), hts _ (m_at_in w2), trivial⟩ ⟨m_blind, fun U hU hW => m_pre hc hz hP hS U hU hW⟩ rfl (by simp) hl.1 (by simp) (lv_room (by rw [m_sum8]; exact h8)) hd ⟨hmc, hms⟩) h hT X
theorem s_callI (hc : m_ctx D K B kh y p s m args meth c) {x z a mc' ms' : Nat} {av : List mV} {r : mV} {H1 : mH} (hm : m_ml (m_own y) x = some (2, z)) (hd : decode (m_by y) pc = .ok (.invokespecial x, 3)) (hM : m_Met l D K B kh d mc' ms' z (mR a :: av) H r H1) (hn : (mR a :: av).length = m_na z) (h8 : st.length ≤ 8) (hmc : k + mc' ≤ mc) (hms : n + ms' ≤ ms) (hlen : H1.length = H.length + mc') (h : m_P l D K B (d + 1) mc ms y p e s m args below meth c Q (pc + 3) ls (m_push r st) H1 (k + mc') (n + ms')) : m_P l D K B (d + 1) mc ms y p e s m args below meth c Q pc ls (av.reverse ++ mR a :: st) H k n := by
  intro hk Hr locs lsr hP hS hl T hT X
  have hz := m_size hk hP hS hc.2.2.2.2.2.2.2.2.2 hT X
  obtain ⟨p1, p2, p3, p4, hlok⟩ := m_ml_ok hm
  simp only [m_lok, Bool.and_eq_true, decide_eq_true_eq] at hlok
  obtain ⟨⟨⟨⟨⟨⟨⟨hz163, w1⟩, w2⟩, w4⟩, hpar⟩, hini⟩, hrt⟩, -⟩ := hlok
  obtain ⟨-, -, -, hcl, -, hn1, hn2⟩ := m_mok_spec hz163
  have hts := hc.2.2.2.2.2.1
  have hp0 : (parseMethodDescriptor (m_nm z).desc).map (fun d => d.parameters.length) = some av.length := by
    cases hq : parseMethodDescriptor (m_nm z).desc with
    | none => rw [hq] at hpar; cases hpar
    | some sg =>
      rw [hq] at hpar
      simp only [Option.map_some, Option.some.injEq] at hpar ⊢
      simp only [List.length_cons] at hn
      omega
  refine m_after hc.2.2.2.2.2.2.2.2.2 hk hlen hS hl (a := (m_enc B (mR a) :: av.map (m_enc B)).toArray) (va_runI (As := av.map (m_enc B)) (bytes := m_by z) (maxL := m_mx z) (nL := m_mx y) (n := av.length) ⟨hc.1, hc.2.1, hc.2.2.2.1, hc.2.2.2.2.1, hts⟩ hM (cwI (ws' := m_tbl) av.length hts (m_good_w hz163) (by unfold m_w; rw [hrt]) rfl rfl (hts _ (m_at_in w4)) (hts _ (m_at_in w1)) (hts _ (m_at_in w2)) hini ⟨hn1, hn2, hp0⟩ (m_room hz163)) ⟨m_blind, fun U hU hW => m_pre hc hz hP hS U hU hW⟩ rfl (by simp) hl.1 (by simp [m_enc]) (lv_room (by rw [m_sum8]; exact h8)) hd ⟨hmc, hms⟩) h hT X
theorem s_callIN (hc : m_ctx D K B kh y p s m args meth c) {x z a mc' ms' : Nat} {av : List mV} {r : mV} {H1 : mH} (hm : m_ml (m_own y) x = some (4, z)) (hd : decode (m_by y) pc = .ok (.invokespecial x, 3)) (hM : m_Met l D K B kh d mc' ms' z (mR a :: av) H r H1) (hn : (mR a :: av).length = m_na z) (h8 : st.length ≤ 8) (hmc : k + mc' ≤ mc) (hms : n + ms' ≤ ms) (hlen : H1.length = H.length + mc') (h : m_P l D K B (d + 1) mc ms y p e s m args below meth c Q (pc + 3) ls (m_push r st) H1 (k + mc') (n + ms')) : m_P l D K B (d + 1) mc ms y p e s m args below meth c Q pc ls (av.reverse ++ mR a :: st) H k n := by
  intro hk Hr locs lsr hP hS hl T hT X
  have hz := m_size hk hP hS hc.2.2.2.2.2.2.2.2.2 hT X
  have hnw : va_Nw (.methodLinkNest (m_cR (m_own y)) x (m_nm z) "QuiltPatches") s := m_nest_of hc.2.2.2.2.2.2.2.2.1.2.2.1 hm (Or.inr rfl)
  obtain ⟨p1, p2, p3, p4, hlok⟩ := m_ml_ok hm
  simp only [m_lok, Bool.and_eq_true, decide_eq_true_eq] at hlok
  obtain ⟨⟨⟨⟨⟨⟨⟨hz163, w1⟩, w2⟩, w4⟩, hpar⟩, hini⟩, hrt⟩, -⟩ := hlok
  obtain ⟨-, -, -, hcl, -, hn1, hn2⟩ := m_mok_spec hz163
  have hts := hc.2.2.2.2.2.1
  have hp0 : (parseMethodDescriptor (m_nm z).desc).map (fun d => d.parameters.length) = some av.length := by
    cases hq : parseMethodDescriptor (m_nm z).desc with
    | none => rw [hq] at hpar; cases hpar
    | some sg =>
      rw [hq] at hpar
      simp only [Option.map_some, Option.some.injEq] at hpar ⊢
      simp only [List.length_cons] at hn
      omega
  refine m_after hc.2.2.2.2.2.2.2.2.2 hk hlen hS hl (a := (m_enc B (mR a) :: av.map (m_enc B)).toArray) (va_runIN (As := av.map (m_enc B)) (bytes := m_by z) (maxL := m_mx z) (nL := m_mx y) (n := av.length) ⟨hc.1, hc.2.1, hc.2.2.2.1, hc.2.2.2.2.1, hts⟩ hM ⟨va_cnB (ws' := m_tbl) av.length hts (m_good_w hz163) (by unfold m_w; rw [hrt]) rfl rfl hnw (hts _ (m_at_in w4)) ⟨hn1, hn2, hp0⟩ (m_room hz163), hini, hts _ (m_at_in w2)⟩ ⟨m_blind, fun U hU hW => m_pre hc hz hP hS U hU hW⟩ rfl (by simp) hl.1 (by simp [m_enc]) (lv_room (by rw [m_sum8]; exact h8)) hd ⟨hmc, hms⟩) h hT X
theorem s_objInit (hc : m_ctx D K B kh y p s m args meth c) {x z a : Nat} (hm : m_ml (m_own y) x = some (5, z)) (hd : decode (m_by y) pc = .ok (.invokespecial x, 3)) (h8 : st.length ≤ 8) (h : m_P l D K B (d + 1) mc ms y p e s m args below meth c Q (pc + 3) ls st H k n) : m_P l D K B (d + 1) mc ms y p e s m args below meth c Q pc ls (mR a :: st) H k n := by
  intro hk Hr locs lsr hP hS hl
  obtain ⟨p1, p2, p3, p4, hlok⟩ := m_ml_ok hm
  simp only [m_lok, Bool.and_eq_true] at hlok
  have hts := hc.2.2.2.2.2.1
  exact W.objInit hc.1 hc.2.1 hc.2.2.2.2.1 (hts _ (m_at_in hlok.1.1)) (hts _ (m_at_in hlok.1.2)) (hts _ (m_at_in hlok.2)) rfl (by rw [hc.2.2.2.1]; exact hl.1) (rest := st.map (m_enc B)) rfl hd (by simp [m_rm]) (by
    show 2 * 0 + _ + 12 ≤ 64 * (d + 1)
    rw [m_sum8]; omega) (h hk Hr locs lsr hP hS hl)
theorem s_max (hc : m_ctx D K B kh y p s m args meth c) {x z : Nat} {a b : Int} (hm : m_ml (m_own y) x = some (7, z)) (hd : decode (m_by y) pc = .ok (.invokestatic x, 3)) (ha : m_in a = true) (hb : m_in b = true) (h8 : st.length ≤ 8) (hkc : k ≤ mc) (hns : n ≤ ms) (h : m_P l D K B (d + 1) mc ms y p e s m args below meth c Q (pc + 3) ls (mI (if a < b then b else a) :: st) H k n) : m_P l D K B (d + 1) mc ms y p e s m args below meth c Q pc ls (mI b :: mI a :: st) H k n := by
  intro hk Hr locs lsr hP hS hl
  obtain ⟨p1, p2, p3, p4, hlok⟩ := m_ml_ok hm
  simp only [m_lok, Bool.and_eq_true] at hlok
  have hts := hc.2.2.2.2.2.1
  refine va_mmax hc.1 hc.2.1 (by rw [hc.2.2.2.1]; exact hl.1.symm) hc.2.2.2.2.1 (hts _ (m_at_in hlok.1.1.1)) (hts _ (m_at_in hlok.1.1.2)) (hts _ (m_at_in hlok.2)) (hts _ (m_at_in hlok.1.2)) (by simp [m_rm]) (by
    show _ + 13 ≤ 64 * (d + 1)
    rw [m_sum8]; omega) hkc hns hd ?_
  have e1 : (if Int32.ofInt a < Int32.ofInt b then Int32.ofInt b else Int32.ofInt a) = Int32.ofInt (if a < b then b else a) := by
    by_cases hab : a < b
    · rw [if_pos hab, if_pos ((m_lt ha hb).mpr hab)]
    · rw [if_neg hab, if_neg (mt (m_lt ha hb).mp hab)]
  rw [e1]
  exact h hk Hr locs lsr hP hS hl
theorem s_min (hc : m_ctx D K B kh y p s m args meth c) {x z : Nat} {a b : Int} (hm : m_ml (m_own y) x = some (8, z)) (hd : decode (m_by y) pc = .ok (.invokestatic x, 3)) (ha : m_in a = true) (hb : m_in b = true) (h8 : st.length ≤ 8) (hkc : k ≤ mc) (hns : n ≤ ms) (h : m_P l D K B (d + 1) mc ms y p e s m args below meth c Q (pc + 3) ls (mI (if b < a then b else a) :: st) H k n) : m_P l D K B (d + 1) mc ms y p e s m args below meth c Q pc ls (mI b :: mI a :: st) H k n := by
  intro hk Hr locs lsr hP hS hl
  obtain ⟨p1, p2, p3, p4, hlok⟩ := m_ml_ok hm
  simp only [m_lok, Bool.and_eq_true] at hlok
  have hts := hc.2.2.2.2.2.1
  refine va_mmin hc.1 hc.2.1 (by rw [hc.2.2.2.1]; exact hl.1.symm) hc.2.2.2.2.1 (hts _ (m_at_in hlok.1.1.1)) (hts _ (m_at_in hlok.1.1.2)) (hts _ (m_at_in hlok.2)) (hts _ (m_at_in hlok.1.2)) (by simp [m_rm]) (by
    show _ + 13 ≤ 64 * (d + 1)
    rw [m_sum8]; omega) hkc hns hd ?_
  have e1 : (if Int32.ofInt b < Int32.ofInt a then Int32.ofInt b else Int32.ofInt a) = Int32.ofInt (if b < a then b else a) := by
    by_cases hab : b < a
    · rw [if_pos hab, if_pos ((m_lt hb ha).mpr hab)]
    · rw [if_neg hab, if_neg (mt (m_lt hb ha).mp hab)]
  rw [e1]
  exact h hk Hr locs lsr hP hS hl
theorem m_cpy_len {f g : List Int} {sp dp n : Nat} (h1 : sp + n ≤ f.length) (h2 : dp + n ≤ g.length) : (m_cpy f g sp dp n).length = g.length := by
  simp [m_cpy]
  omega
theorem m_cpy_va {f g : List Int} {sp dp n : Nat} (h1 : sp + n ≤ f.length) (h2 : dp + n ≤ g.length) : (fun j => Int32.ofInt ((m_cpy f g sp dp n).getD j 0)) = va_cpy (fun j => Int32.ofInt (f.getD j 0)) (fun j => Int32.ofInt (g.getD j 0)) sp dp n := by
  funext j
  have ht : (g.take dp).length = dp := by simp; omega
  have ht2 : ((f.drop sp).take n).length = n := by simp; omega
  by_cases hj : dp ≤ j ∧ j < dp + n
  · rw [pk_cpy_in hj.1 hj.2]
    congr 1
    simp only [m_cpy, List.getD_eq_getElem?_getD]
    rw [List.getElem?_append_right (by omega), List.getElem?_append_left (by omega), ht, List.getElem?_take, if_pos (by omega), List.getElem?_drop]
  · rw [pk_cpy_out (by omega)]
    congr 1
    simp only [m_cpy, List.getD_eq_getElem?_getD]
    by_cases hj2 : j < dp
    · rw [List.getElem?_append_left (by omega), List.getElem?_take, if_pos hj2]
    · rw [List.getElem?_append_right (by omega), List.getElem?_append_right (by omega), List.getElem?_drop, ht, ht2]
      congr 2
      omega
theorem s_copy (hc : m_ctx D K B kh y p s m args meth c) {x z a b : Nat} {nn dp sp : Int} {f g : List Int} (hm : m_ml (m_own y) x = some (6, z)) (hd : decode (m_by y) pc = .ok (.invokestatic x, 3)) (ha : H[a]? = some (8, f)) (hb : H[b]? = some (8, g)) (i1 : m_in nn = true) (i2 : m_in dp = true) (i3 : m_in sp = true) (hn : 0 ≤ nn) (hdp : 0 ≤ dp) (hsp : 0 ≤ sp) (h1 : sp + nn ≤ f.length) (h2 : dp + nn ≤ g.length) (h8 : st.length ≤ 8) (h : m_P l D K B (d + 1) mc ms y p e s m args below meth c Q (pc + 3) ls st (H.modify b (fun q => (q.1, m_cpy f g sp.toNat dp.toNat nn.toNat))) k n) : m_P l D K B (d + 1) mc ms y p e s m args below meth c Q pc ls (mI nn :: mI dp :: mR b :: mI sp :: mR a :: st) H k n := by
  intro hk Hr locs lsr hP hS hl
  obtain ⟨p1, p2, p3, p4, hlok⟩ := m_ml_ok hm
  simp only [m_lok, Bool.and_eq_true] at hlok
  have hts := hc.2.2.2.2.2.1
  have hwa : (m_ws B K H)[a]? = some (B + a, .inl (K.1, f.length, .inl (fun j => Int32.ofInt (f.getD j 0)))) := by rw [m_ws_get ha]; rfl
  have hwb : (m_ws B K H)[b]? = some (B + b, .inl (K.1, g.length, .inl (fun j => Int32.ofInt (g.getD j 0)))) := by rw [m_ws_get hb]; rfl
  have e1 : sp.toNat + nn.toNat ≤ f.length := by omega
  have e2 : dp.toNat + nn.toNat ≤ g.length := by omega
  have hws' : m_ws B K (H.modify b (fun q => (q.1, m_cpy f g sp.toNat dp.toNat nn.toNat))) = (m_ws B K H).set b (B + b, .inl (K.1, g.length, .inl (va_cpy (fun j => Int32.ofInt (f.getD j 0)) (fun j => Int32.ofInt (g.getD j 0)) sp.toNat dp.toNat nn.toNat))) := by
    rw [m_ws_mod _ hb, ← m_cpy_va e1 e2]
    simp [m_encC, m_cpy_len e1 e2]
  refine va_copyi hc.1 hc.2.1 (by rw [hc.2.2.2.1]; exact hl.1.symm) hc.2.2.2.2.1 (hts _ (m_at_in hlok.1.1.1)) (hts _ (m_at_in hlok.1.1.2)) (hts _ (m_at_in hlok.1.2)) (hts _ (m_at_in hlok.2)) hc.2.2.2.2.2.2.2.2.1.1 hP (m_ws_D B K H) hS a b 0 0 hwa hwb (ty := .int) rfl rfl rfl (m_nneg i3 hsp) (m_nneg i2 hdp) (m_nneg i1 hn) (by rw [m_nat i3, m_nat i1]; exact e1) (by rw [m_nat i2, m_nat i1]; exact e2) (fun i hi => rfl) (by simp [m_rm]) (by
    rw [m_sum8]
    have : nativeFrameWords "java/lang/System" "arraycopy" 5 ≤ 40 := by decide +kernel
    show _ ≤ 64 * (d + 1)
    omega) hd (fun H1 locs1 g1 g2 g3 => ?_)
  rw [m_nat i1, m_nat i2, m_nat i3, ← hws'] at g1
  exact h (by simpa using hk) H1 locs1 lsr g1 g3 hl
end MC
end
section
/-! what the little machine does, the real one does: a step -/
def m_iok (pc : Nat) (i : Instr) (len : Nat) : Bool := match i with
  | .iconst _ => len == 1
  | .bipush _ => len == 2
  | .sipush _ => len == 3
  | .ldc_w _ => len == 3
  | .iload_n _ => len == 1
  | .iload _ => len == 2
  | .aload_n _ => len == 1
  | .istore_n _ => len == 1
  | .istore _ => len == 2
  | .astore_n _ => len == 1
  | .iinc _ _ => len == 3
  | .iadd => len == 1
  | .isub => len == 1
  | .imul => len == 1
  | .idiv => len == 1
  | .irem => len == 1
  | .iand => len == 1
  | .ior => len == 1
  | .ixor => len == 1
  | .ishl => len == 1
  | .ishr => len == 1
  | .iushr => len == 1
  | .dup => len == 1
  | .dup2 => len == 1
  | .ifCond _ off => len == 3 && decide (0 ≤ (pc : Int) + off)
  | .if_icmp _ off => len == 3 && decide (0 ≤ (pc : Int) + off)
  | .goto _ => len == 3
  | .tableswitch _ _ _ _ => true
  | .lookupswitch _ _ => true
  | .getfield _ => len == 3
  | .putfield _ => len == 3
  | .iaload => len == 1
  | .baload => len == 1
  | .aaload => len == 1
  | .iastore => len == 1
  | .bastore => len == 1
  | .aastore => len == 1
  | .arraylength => len == 1
  | .new _ => len == 3
  | .newarray _ => len == 2
  | .anewarray _ => len == 3
  | .ireturn => len == 1
  | .return_ => len == 1
  | _ => true
set_option maxRecDepth 100000 in
theorem m_iok_all : m_cs.all (fun l => l.all (fun q => m_iok q.1 q.2.1 q.2.2)) = true := by decide +kernel
theorem m_iok_at {y pc : Nat} {i : Instr} {len : Nat} (h : m_get y pc = some (i, len)) : m_iok pc i len = true := by
  unfold m_get at h
  cases hf : (m_cs.getD y []).find? (fun q => q.1 == pc) with
  | none => rw [hf] at h; cases h
  | some q =>
    rw [hf] at h
    have h1 := List.mem_of_find?_eq_some hf
    have h2 : (q.1 == pc) = true := by simpa using List.find?_some hf
    have h3 : q.1 = pc := by simpa using h2
    have h4 : q.2 = (i, len) := Option.some.inj h
    have h5 : m_cs.getD y [] ∈ m_cs ∨ m_cs.getD y [] = [] := by
      rw [List.getD_eq_getElem?_getD]
      cases hy : m_cs[y]? with
      | none => exact Or.inr rfl
      | some z => exact Or.inl (List.mem_of_getElem? hy)
    rcases h5 with h5 | h5
    · have h6 := List.all_eq_true.mp (List.all_eq_true.mp m_iok_all _ h5) q h1
      rw [h3, h4] at h6
      exact h6
    · rw [h5] at h1
      cases h1
theorem m_jmp_eq {pc tgt : Nat} {off : Int} (h : m_jmp pc off = some tgt) : (pc : Int) + off = (tgt : Int) := by
  unfold m_jmp at h
  split at h
  · cases h
    omega
  · cases h
theorem m_aget_spec {H : mH} {kind : Nat} {st : List mV} {q : Int × List mV} (h : m_aget H kind st = some q) : ∃ (i : Int) (a : Nat) (fs : List Int), st = mI i :: mR a :: q.2 ∧ H[a]? = some (kind, fs) ∧ 0 ≤ i ∧ fs[i.toNat]? = some q.1 := by
  unfold m_aget at h
  split at h
  · split at h
    · split at h
      · rename_i i a r _ k2 fs hH hk
        obtain ⟨v, h1, h2⟩ := Option.map_eq_some_iff.mp h
        cases h2
        obtain ⟨rfl, h0⟩ := hk
        exact ⟨i, a, fs, rfl, hH, h0, h1⟩
      · cases h
    · cases h
  · cases h
theorem m_aput_spec {H : mH} {kind t : Nat} {st : List mV} {q : List mV × mH} (h : m_aput H kind t st = some q) : ∃ (v : mV) (i : Int) (a : Nat) (fs : List Int) (x : Int), st = v :: mI i :: mR a :: q.1 ∧ H[a]? = some (kind, fs) ∧ 0 ≤ i ∧ i.toNat < fs.length ∧ m_st t v = some x ∧ q.2 = m_set H a i.toNat x := by
  unfold m_aput at h
  split at h
  · split at h
    · split at h
      · rename_i v i a r _ k2 fs hH hk
        obtain ⟨x, h1, h2⟩ := Option.map_eq_some_iff.mp h
        cases h2
        obtain ⟨rfl, h0, hl⟩ := hk
        exact ⟨v, i, a, fs, x, rfl, hH, h0, hl, h1, rfl⟩
      · cases h
    · cases h
  · cases h
theorem m_bin_spec {f : Int → Int → Int} {st st' : List mV} (h : m_bin f st = some st') : ∃ (a b : Int) (r : List mV), st = mI b :: mI a :: r ∧ m_in (f a b) = true ∧ st' = mI (f a b) :: r := by
  unfold m_bin at h
  split at h
  · split at h
    · rename_i b a r hin
      cases h
      exact ⟨a, b, r, rfl, hin, rfl⟩
    · cases h
  · cases h
theorem m_st_in {t : Nat} {v : mV} {x : Int} (h : m_st t v = some x) (hv : m_okV v) : m_in x = true := by
  unfold m_st at h
  split at h
  · rename_i z
    have hz : m_in z = true := hv z rfl
    split at h
    · cases h; exact hz
    · split at h
      · split at h
        · cases h; exact hz
        · cases h
      · cases h
  · split at h
    · rename_i hq
      cases h; exact hq.2
    · cases h
  · cases h
theorem m_ld_ok {t : Nat} {v : Int} {w : mV} (h : m_ld t v = some w) (hv : m_in v = true) : m_okV w ∧ w ≠ none := by
  unfold m_ld at h
  split at h
  · split at h
    · cases h
    · cases h; exact ⟨m_okVR _, by simp⟩
  · cases h; exact ⟨m_okVI hv, by simp⟩
theorem m_okH_get {H : mH} {a kd j : Nat} {fs : List Int} {v : Int} (h : m_okH H) (hH : H[a]? = some (kd, fs)) (hv : fs[j]? = some v) : m_in v = true := (h _ (List.mem_of_getElem? hH)).1 v (List.mem_of_getElem? hv)
/-- a step is right -/
def m_T (y pc : Nat) (ls st : List mV) (H : mH) (pc' : Nat) (ls' st' : List mV) (H' : mH) : Prop :=
  m_okH H' ∧ m_okL ls' ∧ m_okS st' ∧ ls'.length = m_mx y ∧ H.length ≤ H'.length ∧ m_sz H ≤ m_sz H' ∧
  ∀ (l : Launch) (D : va_G) (K : mK) (B kh d mc ms : Nat) (p : Program) (e : Env) (s : State) (m : MethodId) (args : Array Value) (below : List Frame) (meth : Method) (c : Code) (Q : State → Prop) (k n : Nat), m_ctx D K B kh y p s m args meth c → k + (H'.length - H.length) ≤ mc → n + (m_sz H' - m_sz H) ≤ ms →
    m_P l D K B d mc ms y p e s m args below meth c Q pc' ls' st' H' (k + (H'.length - H.length)) (n + (m_sz H' - m_sz H)) → m_P l D K B d mc ms y p e s m args below meth c Q pc ls st H k n
theorem m_T_same {y pc : Nat} {ls st : List mV} {H : mH} {pc' : Nat} {ls' st' : List mV} {H' : mH} (h1 : m_okH H') (h2 : m_okL ls') (h3 : m_okS st') (h4 : ls'.length = m_mx y) (h5 : H'.length = H.length) (h6 : m_sz H' = m_sz H)
    (h : ∀ (l : Launch) (D : va_G) (K : mK) (B kh d mc ms : Nat) (p : Program) (e : Env) (s : State) (m : MethodId) (args : Array Value) (below : List Frame) (meth : Method) (c : Code) (Q : State → Prop) (k n : Nat), m_ctx D K B kh y p s m args meth c →
      m_P l D K B d mc ms y p e s m args below meth c Q pc' ls' st' H' k n → m_P l D K B d mc ms y p e s m args below meth c Q pc ls st H k n) : m_T y pc ls st H pc' ls' st' H' := by
  refine ⟨h1, h2, h3, h4, by omega, by omega, fun l D K B kh d mc ms p e s m args below meth c Q k n hc _ _ hp => h l D K B kh d mc ms p e s m args below meth c Q k n hc ?_⟩
  rw [h5, h6, Nat.sub_self, Nat.sub_self] at hp
  exact hp
section MT
variable {y pc len : Nat} {ls st ls' st' : List mV} {H H' : mH} {pc' : Nat}
theorem m_setT {a j : Nat} {v : Int} (o1 : m_okH H) (o2 : m_okL ls) (o3 : m_okS st') (hL : ls.length = m_mx y) (hv : m_in v = true)
    (h : ∀ (l : Launch) (D : va_G) (K : mK) (B kh d mc ms : Nat) (p : Program) (e : Env) (s : State) (m : MethodId) (args : Array Value) (below : List Frame) (meth : Method) (c : Code) (Q : State → Prop) (k n : Nat), m_ctx D K B kh y p s m args meth c →
      m_P l D K B d mc ms y p e s m args below meth c Q pc' ls st' (m_set H a j v) k n → m_P l D K B d mc ms y p e s m args below meth c Q pc ls st H k n) : m_T y pc ls st H pc' ls st' (m_set H a j v) :=
  m_T_same (m_set_ok o1 hv) o2 o3 hL (m_set_len H a j v) (m_set_sz H a j v) h
theorem m_next_ok {i : Instr} (hg : m_get y pc = some (i, len)) (h : m_next y i len pc ls st H = some (pc', ls', st', H')) (o1 : m_okH H) (o2 : m_okL ls) (o3 : m_okS st) (hL : ls.length = m_mx y) : m_T y pc ls st H pc' ls' st' H' := by
  have hd := m_dec hg
  have hi := m_iok_at hg
  cases i with
  | iconst x =>
    obtain rfl : len = 1 := by simpa [m_iok] using hi
    simp only [m_next] at h
    split at h
    · cases h
      exact m_T_same o1 o2 (m_okS_I (by assumption) o3) hL rfl rfl (fun l D K B kh d mc ms p e s m args below meth c Q k n hc hp => s_iconst hc hd hp)
    · cases h
  | bipush x =>
    obtain rfl : len = 2 := by simpa [m_iok] using hi
    simp only [m_next] at h
    split at h
    · rename_i hx
      cases h
      exact m_T_same o1 o2 (m_okS_I (by rw [m_in_iff]; omega) o3) hL rfl rfl (fun l D K B kh d mc ms p e s m args below meth c Q k n hc hp => s_bipush hc hd hx hp)
    · cases h
  | sipush x =>
    obtain rfl : len = 3 := by simpa [m_iok] using hi
    simp only [m_next] at h
    split at h
    · rename_i hx
      cases h
      exact m_T_same o1 o2 (m_okS_I (by rw [m_in_iff]; omega) o3) hL rfl rfl (fun l D K B kh d mc ms p e s m args below meth c Q k n hc hp => s_sipush hc hd hx hp)
    · cases h
  | ldc_w x =>
    obtain rfl : len = 3 := by simpa [m_iok] using hi
    simp only [m_next] at h
    split at h
    · split at h
      · rename_i v hx hv
        cases h
        exact m_T_same o1 o2 (m_okS_I hv o3) hL rfl rfl (fun l D K B kh d mc ms p e s m args below meth c Q k n hc hp => s_ldc_w hc hd hx hp)
      · cases h
    · cases h
  | iload_n x =>
    obtain rfl : len = 1 := by simpa [m_iok] using hi
    simp only [m_next] at h
    split at h
    · rename_i v hx
      cases h
      exact m_T_same o1 o2 (m_okS_I (m_okL_get o2 hx) o3) hL rfl rfl (fun l D K B kh d mc ms p e s m args below meth c Q k n hc hp => s_iload_n hc hd hx hp)
    · cases h
  | iload x =>
    obtain rfl : len = 2 := by simpa [m_iok] using hi
    simp only [m_next] at h
    split at h
    · rename_i v hx
      cases h
      exact m_T_same o1 o2 (m_okS_I (m_okL_get o2 hx) o3) hL rfl rfl (fun l D K B kh d mc ms p e s m args below meth c Q k n hc hp => s_iload hc hd hx hp)
    · cases h
  | aload_n x =>
    obtain rfl : len = 1 := by simpa [m_iok] using hi
    simp only [m_next] at h
    split at h
    · rename_i v hx
      cases h
      exact m_T_same o1 o2 (m_okS_R o3) hL rfl rfl (fun l D K B kh d mc ms p e s m args below meth c Q k n hc hp => s_aload_n hc hd hx hp)
    · cases h
  | istore_n x =>
    obtain rfl : len = 1 := by simpa [m_iok] using hi
    simp only [m_next] at h
    split at h
    · split at h
      · rename_i v r hx
        cases h
        exact m_T_same o1 (m_okL_set o2 (m_okVI (m_okS_hd o3))) (m_okS_tl o3) (by simpa using hL) rfl rfl (fun l D K B kh d mc ms p e s m args below meth c Q k n hc hp => s_istore_n hc hL hd hx hp)
      · cases h
    · cases h
  | istore x =>
    obtain rfl : len = 2 := by simpa [m_iok] using hi
    simp only [m_next] at h
    split at h
    · split at h
      · rename_i v r hx
        cases h
        exact m_T_same o1 (m_okL_set o2 (m_okVI (m_okS_hd o3))) (m_okS_tl o3) (by simpa using hL) rfl rfl (fun l D K B kh d mc ms p e s m args below meth c Q k n hc hp => s_istore hc hL hd hx hp)
      · cases h
    · cases h
  | astore_n x =>
    obtain rfl : len = 1 := by simpa [m_iok] using hi
    simp only [m_next] at h
    split at h
    · split at h
      · rename_i v r hx
        cases h
        exact m_T_same o1 (m_okL_set o2 (m_okVR v)) (m_okS_tl o3) (by simpa using hL) rfl rfl (fun l D K B kh d mc ms p e s m args below meth c Q k n hc hp => s_astore_n hc hL hd hx hp)
      · cases h
    · cases h
  | iinc x a =>
    obtain rfl : len = 3 := by simpa [m_iok] using hi
    simp only [m_next] at h
    split at h
    · split at h
      · rename_i v hx hin
        cases h
        exact m_T_same o1 (m_okL_set o2 (m_okVI hin)) o3 (by simpa using hL) rfl rfl (fun l D K B kh d mc ms p e s m args below meth c Q k n hc hp => s_iinc hc hL hd hx hp)
      · cases h
    · cases h
  | iadd =>
    obtain rfl : len = 1 := by simpa [m_iok] using hi
    simp only [m_next] at h
    obtain ⟨st2, h1, h2⟩ := Option.map_eq_some_iff.mp h
    obtain ⟨a, b, r, rfl, hin, rfl⟩ := m_bin_spec h1
    cases h2
    exact m_T_same o1 o2 (m_okS_I hin (m_okS_tl (m_okS_tl o3))) hL rfl rfl (fun l D K B kh d mc ms p e s m args below meth c Q k n hc hp => s_iadd hc hd hp)
  | isub =>
    obtain rfl : len = 1 := by simpa [m_iok] using hi
    simp only [m_next] at h
    obtain ⟨st2, h1, h2⟩ := Option.map_eq_some_iff.mp h
    obtain ⟨a, b, r, rfl, hin, rfl⟩ := m_bin_spec h1
    cases h2
    exact m_T_same o1 o2 (m_okS_I hin (m_okS_tl (m_okS_tl o3))) hL rfl rfl (fun l D K B kh d mc ms p e s m args below meth c Q k n hc hp => s_isub hc hd hp)
  | imul =>
    obtain rfl : len = 1 := by simpa [m_iok] using hi
    simp only [m_next] at h
    obtain ⟨st2, h1, h2⟩ := Option.map_eq_some_iff.mp h
    obtain ⟨a, b, r, rfl, hin, rfl⟩ := m_bin_spec h1
    cases h2
    exact m_T_same o1 o2 (m_okS_I hin (m_okS_tl (m_okS_tl o3))) hL rfl rfl (fun l D K B kh d mc ms p e s m args below meth c Q k n hc hp => s_imul hc hd hp)
  | idiv =>
    obtain rfl : len = 1 := by simpa [m_iok] using hi
    simp only [m_next] at h
    split at h
    · split at h
      · cases h
      · rename_i b a r h0
        cases h
        have hb := m_okS_hd o3
        have ha := m_okS_hd (m_okS_tl o3)
        exact m_T_same o1 o2 (m_okS_I (m_div ha hb h0).1 (m_okS_tl (m_okS_tl o3))) hL rfl rfl (fun l D K B kh d mc ms p e s m args below meth c Q k n hc hp => s_idiv hc hd ha hb h0 hp)
    · cases h
  | irem =>
    obtain rfl : len = 1 := by simpa [m_iok] using hi
    simp only [m_next] at h
    split at h
    · split at h
      · cases h
      · rename_i b a r h0
        cases h
        have hb := m_okS_hd o3
        have ha := m_okS_hd (m_okS_tl o3)
        exact m_T_same o1 o2 (m_okS_I (m_rem ha hb h0).1 (m_okS_tl (m_okS_tl o3))) hL rfl rfl (fun l D K B kh d mc ms p e s m args below meth c Q k n hc hp => s_irem hc hd ha hb h0 hp)
    · cases h
  | iand =>
    obtain rfl : len = 1 := by simpa [m_iok] using hi
    simp only [m_next] at h
    split at h
    · cases h
      exact m_T_same o1 o2 (m_okS_I (m_in_toInt _) (m_okS_tl (m_okS_tl o3))) hL rfl rfl (fun l D K B kh d mc ms p e s m args below meth c Q k n hc hp => s_iand hc hd hp)
    · cases h
  | ior =>
    obtain rfl : len = 1 := by simpa [m_iok] using hi
    simp only [m_next] at h
    split at h
    · cases h
      exact m_T_same o1 o2 (m_okS_I (m_in_toInt _) (m_okS_tl (m_okS_tl o3))) hL rfl rfl (fun l D K B kh d mc ms p e s m args below meth c Q k n hc hp => s_ior hc hd hp)
    · cases h
  | ixor =>
    obtain rfl : len = 1 := by simpa [m_iok] using hi
    simp only [m_next] at h
    split at h
    · cases h
      exact m_T_same o1 o2 (m_okS_I (m_in_toInt _) (m_okS_tl (m_okS_tl o3))) hL rfl rfl (fun l D K B kh d mc ms p e s m args below meth c Q k n hc hp => s_ixor hc hd hp)
    · cases h
  | ishl =>
    obtain rfl : len = 1 := by simpa [m_iok] using hi
    simp only [m_next] at h
    split at h
    · cases h
      exact m_T_same o1 o2 (m_okS_I (m_in_toInt _) (m_okS_tl (m_okS_tl o3))) hL rfl rfl (fun l D K B kh d mc ms p e s m args below meth c Q k n hc hp => s_ishl hc hd hp)
    · cases h
  | ishr =>
    obtain rfl : len = 1 := by simpa [m_iok] using hi
    simp only [m_next] at h
    split at h
    · cases h
      exact m_T_same o1 o2 (m_okS_I (m_in_toInt _) (m_okS_tl (m_okS_tl o3))) hL rfl rfl (fun l D K B kh d mc ms p e s m args below meth c Q k n hc hp => s_ishr hc hd hp)
    · cases h
  | iushr =>
    obtain rfl : len = 1 := by simpa [m_iok] using hi
    simp only [m_next] at h
    split at h
    · cases h
      exact m_T_same o1 o2 (m_okS_I (m_in_toInt _) (m_okS_tl (m_okS_tl o3))) hL rfl rfl (fun l D K B kh d mc ms p e s m args below meth c Q k n hc hp => s_iushr hc hd hp)
    · cases h
  | dup =>
    obtain rfl : len = 1 := by simpa [m_iok] using hi
    simp only [m_next] at h
    split at h
    · cases h
      exact m_T_same o1 o2 (m_okS_cons (o3 _ List.mem_cons_self).1 (by simp) o3) hL rfl rfl (fun l D K B kh d mc ms p e s m args below meth c Q k n hc hp => s_dup hc hd hp)
    · cases h
  | dup2 =>
    obtain rfl : len = 1 := by simpa [m_iok] using hi
    simp only [m_next] at h
    split at h
    · cases h
      exact m_T_same o1 o2 (m_okS_cons (o3 _ List.mem_cons_self).1 (by simp) (m_okS_cons (o3 _ (List.mem_cons_of_mem _ List.mem_cons_self)).1 (by simp) o3)) hL rfl rfl (fun l D K B kh d mc ms p e s m args below meth c Q k n hc hp => s_dup2 hc hd hp)
    · cases h
  | ifCond cd off =>
    obtain ⟨rfl, hoff⟩ : len = 3 ∧ 0 ≤ (pc : Int) + off := by simpa [m_iok] using hi
    have htgt : (pc : Int) + off = ((((pc : Int) + off).toNat : Nat) : Int) := by omega
    simp only [m_next] at h
    split at h
    · rename_i a r
      have ha := m_okS_hd o3
      split at h
      · rename_i hcm
        obtain ⟨t, h1, h2⟩ := Option.map_eq_some_iff.mp h
        cases h2
        exact m_T_same o1 o2 (m_okS_tl o3) hL rfl rfl (fun l D K B kh d mc ms p e s m args below meth c Q k n hc hp => s_if hc hd (m_jmp_eq h1) ha (fun _ => hp) (fun q => absurd hcm (by rw [q]; decide)))
      · rename_i hcm
        cases h
        exact m_T_same o1 o2 (m_okS_tl o3) hL rfl rfl (fun l D K B kh d mc ms p e s m args below meth c Q k n hc hp => s_if hc hd htgt ha (fun q => absurd q hcm) (fun _ => hp))
    · cases h
  | if_icmp cd off =>
    obtain ⟨rfl, hoff⟩ : len = 3 ∧ 0 ≤ (pc : Int) + off := by simpa [m_iok] using hi
    have htgt : (pc : Int) + off = ((((pc : Int) + off).toNat : Nat) : Int) := by omega
    simp only [m_next] at h
    split at h
    · rename_i b a r
      have hb := m_okS_hd o3
      have ha := m_okS_hd (m_okS_tl o3)
      split at h
      · rename_i hcm
        obtain ⟨t, h1, h2⟩ := Option.map_eq_some_iff.mp h
        cases h2
        exact m_T_same o1 o2 (m_okS_tl (m_okS_tl o3)) hL rfl rfl (fun l D K B kh d mc ms p e s m args below meth c Q k n hc hp => s_icmp hc hd (m_jmp_eq h1) ha hb (fun _ => hp) (fun q => absurd hcm (by rw [q]; decide)))
      · rename_i hcm
        cases h
        exact m_T_same o1 o2 (m_okS_tl (m_okS_tl o3)) hL rfl rfl (fun l D K B kh d mc ms p e s m args below meth c Q k n hc hp => s_icmp hc hd htgt ha hb (fun q => absurd q hcm) (fun _ => hp))
    · cases h
  | goto off =>
    obtain rfl : len = 3 := by simpa [m_iok] using hi
    simp only [m_next] at h
    obtain ⟨t, h1, h2⟩ := Option.map_eq_some_iff.mp h
    cases h2
    exact m_T_same o1 o2 o3 hL rfl rfl (fun l D K B kh d mc ms p e s m args below meth c Q k n hc hp => s_goto hc hd (m_jmp_eq h1) hp)
  | tableswitch dd lo hi2 offs =>
    simp only [m_next] at h
    split at h
    · obtain ⟨t, h1, h2⟩ := Option.map_eq_some_iff.mp h
      cases h2
      exact m_T_same o1 o2 (m_okS_tl o3) hL rfl rfl (fun l D K B kh d mc ms p e s m args below meth c Q k n hc hp => s_table hc hd (m_okS_hd o3) h1 hp)
    · cases h
  | lookupswitch dd ps =>
    simp only [m_next] at h
    split at h
    · split at h
      · rename_i hps
        obtain ⟨t, h1, h2⟩ := Option.map_eq_some_iff.mp h
        cases h2
        exact m_T_same o1 o2 (m_okS_tl o3) hL rfl rfl (fun l D K B kh d mc ms p e s m args below meth c Q k n hc hp => s_lookup hc hd (m_okS_hd o3) hps h1 hp)
      · cases h
    · cases h
  | getfield x =>
    obtain rfl : len = 3 := by simpa [m_iok] using hi
    simp only [m_next] at h
    split at h
    · split at h
      · split at h
        · split at h
          · rename_i ci kf a r hfl _ kd fs hH hkd _ _ v t hv ht
            obtain ⟨w, h1, h2⟩ := Option.map_eq_some_iff.mp h
            cases h2
            subst hkd
            obtain ⟨g1, g2⟩ := m_ld_ok h1 (m_okH_get o1 hH hv)
            exact m_T_same o1 o2 (m_okS_cons g1 g2 (m_okS_tl o3)) hL rfl rfl (fun l D K B kh d mc ms p e s m args below meth c Q k n hc hp => s_getfield hc hd hfl hH hv ht h1 hp)
          · cases h
        · cases h
      · cases h
    · cases h
  | putfield x =>
    obtain rfl : len = 3 := by simpa [m_iok] using hi
    simp only [m_next] at h
    split at h
    · split at h
      · split at h
        · split at h
          · rename_i ci kf v a r hfl _ kd fs hH hkd _ t ht
            obtain ⟨w, h1, h2⟩ := Option.map_eq_some_iff.mp h
            cases h2
            obtain ⟨rfl, hkl, hfin⟩ := hkd
            obtain ⟨h8, -⟩ := m_fl_ok hfl
            exact m_setT o1 o2 (m_okS_tl (m_okS_tl o3)) hL (m_st_in h1 (o3 _ List.mem_cons_self).1) (fun l D K B kh d mc ms p e s m args below meth c Q k n hc hp => s_putfield hc hd hfl hH hkl ((o1 _ (List.mem_of_getElem? hH)).2.2 h8) hfin ht h1 hp)
          · cases h
        · cases h
      · cases h
    · cases h
  | iaload =>
    obtain rfl : len = 1 := by simpa [m_iok] using hi
    simp only [m_next] at h
    obtain ⟨q, h1, h2⟩ := Option.map_eq_some_iff.mp h
    obtain ⟨i, a, fs, rfl, hH, h0, hv⟩ := m_aget_spec h1
    cases h2
    exact m_T_same o1 o2 (m_okS_I (m_okH_get o1 hH hv) (m_okS_tl (m_okS_tl o3))) hL rfl rfl (fun l D K B kh d mc ms p e s m args below meth c Q k n hc hp => s_iaload hc hd hH (m_okS_hd o3) h0 hv hp)
  | baload =>
    obtain rfl : len = 1 := by simpa [m_iok] using hi
    simp only [m_next] at h
    obtain ⟨q, h1, h2⟩ := Option.map_eq_some_iff.mp h
    obtain ⟨i, a, fs, rfl, hH, h0, hv⟩ := m_aget_spec h1
    cases h2
    exact m_T_same o1 o2 (m_okS_I (m_okH_get o1 hH hv) (m_okS_tl (m_okS_tl o3))) hL rfl rfl (fun l D K B kh d mc ms p e s m args below meth c Q k n hc hp => s_baload hc hd hH (m_okS_hd o3) h0 hv hp)
  | aaload =>
    obtain rfl : len = 1 := by simpa [m_iok] using hi
    simp only [m_next] at h
    obtain ⟨q, h1, h2⟩ := Option.bind_eq_some_iff.mp h
    obtain ⟨w, h3, h4⟩ := Option.map_eq_some_iff.mp h2
    obtain ⟨i, a, fs, rfl, hH, h0, hv⟩ := m_aget_spec h1
    cases h4
    obtain ⟨g1, g2⟩ := m_ld_ok h3 (m_okH_get o1 hH hv)
    exact m_T_same o1 o2 (m_okS_cons g1 g2 (m_okS_tl (m_okS_tl o3))) hL rfl rfl (fun l D K B kh d mc ms p e s m args below meth c Q k n hc hp => s_aaload hc hd hH (m_okS_hd o3) h0 hv h3 hp)
  | iastore =>
    obtain rfl : len = 1 := by simpa [m_iok] using hi
    simp only [m_next] at h
    obtain ⟨q, h1, h2⟩ := Option.map_eq_some_iff.mp h
    obtain ⟨v, i, a, fs, x, rfl, hH, h0, hl, hst, hq⟩ := m_aput_spec h1
    cases h2
    rw [hq]
    have hx := m_st_in hst (o3 _ List.mem_cons_self).1
    have hv : v = mI x := by
      unfold m_st at hst
      split at hst
      · simp at hst; rw [hst]
      · simp at hst
      · cases hst
    subst hv
    exact m_setT o1 o2 (m_okS_tl (m_okS_tl (m_okS_tl o3))) hL hx (fun l D K B kh d mc ms p e s m args below meth c Q k n hc hp => s_iastore hc hd hH (m_okS_hd (m_okS_tl o3)) h0 hl hp)
  | bastore =>
    obtain rfl : len = 1 := by simpa [m_iok] using hi
    simp only [m_next] at h
    obtain ⟨q, h1, h2⟩ := Option.map_eq_some_iff.mp h
    obtain ⟨v, i, a, fs, x, rfl, hH, h0, hl, hst, hq⟩ := m_aput_spec h1
    cases h2
    rw [hq]
    have hx := m_st_in hst (o3 _ List.mem_cons_self).1
    obtain ⟨hv, h01⟩ : v = mI x ∧ (x = 0 ∨ x = 1) := by
      unfold m_st at hst
      split at hst
      · split at hst
        · omega
        · split at hst
          · split at hst
            · rename_i hz
              cases hst
              exact ⟨rfl, hz⟩
            · cases hst
          · omega
      · simp at hst
      · cases hst
    subst hv
    exact m_setT o1 o2 (m_okS_tl (m_okS_tl (m_okS_tl o3))) hL hx (fun l D K B kh d mc ms p e s m args below meth c Q k n hc hp => s_bastore hc hd hH (m_okS_hd (m_okS_tl o3)) h0 hl h01 hp)
  | aastore =>
    obtain rfl : len = 1 := by simpa [m_iok] using hi
    simp only [m_next] at h
    split at h
    · rename_i hisL
      obtain ⟨q, h1, h2⟩ := Option.map_eq_some_iff.mp h
      obtain ⟨v, i, a, fs, x, rfl, hH, h0, hl, hst, hq⟩ := m_aput_spec h1
      cases h2
      rw [hq]
      have hx := m_st_in hst (o3 _ List.mem_cons_self).1
      simp only [List.headD_cons] at hisL
      unfold m_isL at hisL
      split at hisL
      · rename_i b
        split at hisL
        · rename_i k2 gs hb
          have hk2 : k2 = 2 := by simpa using hisL
          subst hk2
          have hxb : x = (b : Int) := by
            unfold m_st at hst
            simp at hst
            omega
          subst hxb
          exact m_setT o1 o2 (m_okS_tl (m_okS_tl (m_okS_tl o3))) hL hx (fun l D K B kh d mc ms p e s m args below meth c Q k n hc hp => s_aastore hc hd hH hb (m_okS_hd (m_okS_tl o3)) h0 hl hp)
        · cases hisL
      · cases hisL
    · cases h
  | arraylength =>
    obtain rfl : len = 1 := by simpa [m_iok] using hi
    simp only [m_next] at h
    split at h
    · split at h
      · split at h
        · rename_i a r kd fs hH hkd
          cases h
          exact m_T_same o1 o2 (m_okS_I hkd.2 (m_okS_tl o3)) hL rfl rfl (fun l D K B kh d mc ms p e s m args below meth c Q k n hc hp => s_arraylength hc hd hH hkd.1 hp)
        · cases h
      · cases h
    · cases h
  | new x =>
    obtain rfl : len = 3 := by simpa [m_iok] using hi
    simp only [m_next] at h
    split at h
    · rename_i ci hci
      cases h
      obtain ⟨h8, -⟩ := m_cl_ok hci
      have hdl : (m_def ci).length = (m_C ci).2.2 := by simp [m_def, m_tag_len h8]
      have e1 : (H ++ [(ci, m_def ci)]).length - H.length = 1 := by simp
      have e2 : m_sz (H ++ [(ci, m_def ci)]) - m_sz H = (m_C ci).2.2 := by rw [m_sz_app, hdl]; omega
      refine ⟨m_app_ok o1 ⟨fun v hv => ?_, by simp only; omega, fun _ => hdl⟩, o2, m_okS_R o3, hL, by simp, by rw [m_sz_app]; omega, fun l D K B kh d mc ms p e s m args below meth c Q k n hc hkc hns hp => ?_⟩
      · simp only [m_def, List.mem_map] at hv
        obtain ⟨t, -, rfl⟩ := hv
        split <;> decide
      · rw [e1] at hkc hp
        rw [e2] at hns hp
        exact s_new hc hd hci hkc hns hp
    · cases h
  | newarray t =>
    obtain rfl : len = 2 := by simpa [m_iok] using hi
    simp only [m_next] at h
    split at h
    · split at h
      · rename_i x r hx
        split at h
        · cases h
          have e1 : (H ++ [(8, List.replicate x.toNat (0 : Int))]).length - H.length = 1 := by simp
          have e2 : m_sz (H ++ [(8, List.replicate x.toNat (0 : Int))]) - m_sz H = x.toNat := by rw [m_sz_app]; simp
          refine ⟨m_app_ok o1 ⟨fun v hv => ?_, by simp, fun h8 => by simp at h8⟩, o2, m_okS_R (m_okS_tl o3), hL, by simp, by rw [m_sz_app]; omega, fun l D K B kh d mc ms p e s m args below meth c Q k n hc hkc hns hp => ?_⟩
          · rw [(List.mem_replicate.mp hv).2]; decide
          · rw [e1] at hkc hp
            rw [e2] at hns hp
            exact s_newI hc hd hx hkc hns hp
        · cases h
          have e1 : (H ++ [(9, List.replicate x.toNat (0 : Int))]).length - H.length = 1 := by simp
          have e2 : m_sz (H ++ [(9, List.replicate x.toNat (0 : Int))]) - m_sz H = x.toNat := by rw [m_sz_app]; simp
          refine ⟨m_app_ok o1 ⟨fun v hv => ?_, by simp, fun h8 => by simp at h8⟩, o2, m_okS_R (m_okS_tl o3), hL, by simp, by rw [m_sz_app]; omega, fun l D K B kh d mc ms p e s m args below meth c Q k n hc hkc hns hp => ?_⟩
          · rw [(List.mem_replicate.mp hv).2]; decide
          · rw [e1] at hkc hp
            rw [e2] at hns hp
            exact s_newZ hc hd hx hkc hns hp
        · cases h
      · cases h
    · cases h
  | anewarray x =>
    obtain rfl : len = 3 := by simpa [m_iok] using hi
    simp only [m_next] at h
    split at h
    · split at h
      · rename_i ci hci2 z r hci hx
        cases h
        obtain ⟨rfl, hx⟩ := hx
        have e1 : (H ++ [(10, List.replicate z.toNat (-1 : Int))]).length - H.length = 1 := by simp
        have e2 : m_sz (H ++ [(10, List.replicate z.toNat (-1 : Int))]) - m_sz H = z.toNat := by rw [m_sz_app]; simp
        refine ⟨m_app_ok o1 ⟨fun v hv => ?_, by simp, fun h8 => by simp at h8⟩, o2, m_okS_R (m_okS_tl o3), hL, by simp, by rw [m_sz_app]; omega, fun l D K B kh d mc ms p e s m args below meth c Q k n hc hkc hns hp => ?_⟩
        · rw [(List.mem_replicate.mp hv).2]; decide
        · rw [e1] at hkc hp
          rw [e2] at hns hp
          exact s_newL hc hd hci hx hkc hns hp
      · cases h
    · cases h
  | _ => exact absurd h (by simp [m_next])
end MT
end
section
/-! what the little machine does, the real one does: a whole run -/
def m_S (d y pc : Nat) (ls st : List mV) (H : mH) (r : mV) (H' : mH) : Prop :=
  m_okH H' ∧ m_okV r ∧ H.length ≤ H'.length ∧ m_sz H ≤ m_sz H' ∧
  ∀ (l : Launch) (D : va_G) (K : mK) (B kh mc ms : Nat) (p : Program) (e : Env) (s : State) (m : MethodId) (args : Array Value) (below : List Frame) (meth : Method) (c : Code) (k n : Nat), m_ctx D K B kh y p s m args meth c → k + (H'.length - H.length) ≤ mc → n + (m_sz H' - m_sz H) ≤ ms →
    m_P l D K B d mc ms y p e s m args below meth c (MQ below (m_Qc D K B r H') args s mc ms (fun q => B ≤ q)) pc ls st H k n
theorem m_S_step {d y pc : Nat} {ls st : List mV} {H : mH} {r : mV} {H' : mH} {pc1 : Nat} {ls1 st1 : List mV} {H1 : mH} (ht : m_T y pc ls st H pc1 ls1 st1 H1) (h : m_S d y pc1 ls1 st1 H1 r H') : m_S d y pc ls st H r H' := by
  obtain ⟨-, -, -, -, a5, a6, a7⟩ := ht
  obtain ⟨b1, b2, b3, b4, b5⟩ := h
  refine ⟨b1, b2, by omega, by omega, fun l D K B kh mc ms p e s m args below meth c k n hc hk hn => ?_⟩
  exact a7 l D K B kh d mc ms p e s m args below meth c _ k n hc (by omega) (by omega) (b5 l D K B kh mc ms p e s m args below meth c _ _ hc (by omega) (by omega))
/-- what a method called at depth d does, for every launch -/
def m_CM (d z : Nat) (av : List mV) (H : mH) (r : mV) (H1 : mH) : Prop := ∀ (l : Launch) (D : va_G) (K : mK) (B kh : Nat), m_Met l D K B kh d (H1.length - H.length) (m_sz H1 - m_sz H) z av H r H1
theorem m_call_S {d y pc i1 x j k z : Nat} {i : Instr} {ls st : List mV} {H : mH} {r r1 : mV} {H' H1 : mH} {av : List mV} (hi1 : i1 = 3) (hg : m_get y pc = some (i, i1)) (hi : m_inv i = some (j, x)) (hm : m_ml (m_own y) x = some (k, z)) (hfit : m_fit j k = true) (hk5 : ¬ 5 ≤ k) (hM : m_CM d z av H r1 H1) (hrc : m_rcv k z av H = true) (hn : av.length = m_na z) (h8 : st.length ≤ 8) (hle : H.length ≤ H1.length) (hsz : m_sz H ≤ m_sz H1)
    (h : m_S (d + 1) y (pc + 3) ls (m_push r1 st) H1 r H') : m_S (d + 1) y pc ls (av.reverse ++ st) H r H' := by
  subst hi1
  have hd := m_dec hg
  obtain ⟨b1, b2, b3, b4, b5⟩ := h
  refine ⟨b1, b2, by omega, by omega, fun l D K B kh mc ms p e s m args below meth c k0 n0 hc hk hn0 => ?_⟩
  have hp := b5 l D K B kh mc ms p e s m args below meth c (k0 + (H1.length - H.length)) (n0 + (m_sz H1 - m_sz H)) hc (by omega) (by omega)
  have hM := hM l D K B kh
  have hlen : H1.length = H.length + (H1.length - H.length) := by omega
  have a1 : k0 + (H1.length - H.length) ≤ mc := by omega
  have a2 : n0 + (m_sz H1 - m_sz H) ≤ ms := by omega
  cases i with
  | invokevirtual x' =>
    cases hi
    have : k = 0 := by simpa [m_fit] using hfit
    subst this
    unfold m_rcv at hrc
    match av, hrc, hn, hM with
    | some (.inr a) :: av', hrc, hn, hM =>
      simp only at hrc
      split at hrc
      · rename_i kd fs ha
        have hkd : kd = m_own z := by simpa using hrc
        subst hkd
        have := s_callV hc hm hd hM ha hn h8 a1 a2 hlen hp
        simpa using this
      · cases hrc
  | invokestatic x' =>
    cases hi
    have : k = 1 ∨ k = 3 := by
      simp [m_fit] at hfit
      omega
    rcases this with rfl | rfl
    · exact s_callS hc hm hd hM hn h8 a1 a2 hlen hp
    · exact s_callSN hc hm hd hM hn h8 a1 a2 hlen hp
  | invokespecial x' =>
    cases hi
    have : k = 2 ∨ k = 4 := by
      simp [m_fit] at hfit
      omega
    rcases this with rfl | rfl
    · unfold m_rcv at hrc
      match av, hrc, hn, hM with
      | some (.inr a) :: av', hrc, hn, hM =>
        have := s_callI hc hm hd hM hn h8 a1 a2 hlen hp
        simpa using this
    · unfold m_rcv at hrc
      match av, hrc, hn, hM with
      | some (.inr a) :: av', hrc, hn, hM =>
        have := s_callIN hc hm hd hM hn h8 a1 a2 hlen hp
        simpa using this
  | _ => exact absurd hi (by simp [m_inv])
theorem m_blt_S {d y pc i1 x j k z : Nat} {i : Instr} {ls st st' : List mV} {H : mH} {r : mV} {H' H1 : mH} (hi1 : i1 = 3) (hg : m_get y pc = some (i, i1)) (hi : m_inv i = some (j, x)) (hm : m_ml (m_own y) x = some (k, z)) (hfit : m_fit j k = true) (o1 : m_okH H) (o3 : m_okS st) (hb : m_blt k st H = some (st', H1)) (h8 : st'.length ≤ 8)
    (h : m_okH H1 → m_okS st' → m_S (d + 1) y (pc + 3) ls st' H1 r H') : m_S (d + 1) y pc ls st H r H' := by
  subst hi1
  have hd := m_dec hg
  unfold m_blt at hb
  split at hb
  · split at hb
    · cases hb
      obtain ⟨b1, b2, b3, b4, b5⟩ := h o1 (m_okS_tl o3)
      refine ⟨b1, b2, by omega, by omega, fun l D K B kh mc ms p e s m args below meth c k0 n0 hc hk hn0 => ?_⟩
      have hp := b5 l D K B kh mc ms p e s m args below meth c k0 n0 hc (by omega) (by omega)
      have hx : i = .invokespecial x := by
        cases i with
        | invokespecial x' => cases hi; rfl
        | invokevirtual x' => cases hi; simp [m_fit] at hfit
        | invokestatic x' => cases hi; simp [m_fit] at hfit
        | _ => exact absurd hi (by simp [m_inv])
      subst hx
      exact s_objInit hc hm hd h8 hp
    · cases hb
  · split at hb
    · split at hb
      · split at hb
        · rename_i nn dp b sp a r0 _ _ ka f kb g hf hgb hcond
          cases hb
          obtain ⟨rfl, rfl, hn, hdp, hsp, q1, q2⟩ := hcond
          have e1 : sp.toNat + nn.toNat ≤ f.length := by omega
          have e2 : dp.toNat + nn.toNat ≤ g.length := by omega
          have t1 := m_okS_tl o3
          have t2 := m_okS_tl t1
          have t3 := m_okS_tl t2
          have t4 := m_okS_tl t3
          have hok : m_okH (H.modify b (fun q => (q.1, m_cpy f g sp.toNat dp.toNat nn.toNat))) := by
            refine m_mod_ok o1 (fun c hc0 hc1 => ⟨fun v hv => ?_, hc1.2.1, fun h8 => ?_⟩)
            · have hv2 : v ∈ g.take dp.toNat ++ ((f.drop sp.toNat).take nn.toNat ++ g.drop (dp.toNat + nn.toNat)) := hv
              rcases List.mem_append.mp hv2 with hv2 | hv2
              · exact (o1 _ (List.mem_of_getElem? hgb)).1 v (List.mem_of_mem_take hv2)
              · rcases List.mem_append.mp hv2 with hv2 | hv2
                · exact (o1 _ (List.mem_of_getElem? hf)).1 v (List.mem_of_mem_drop (List.mem_of_mem_take hv2))
                · exact (o1 _ (List.mem_of_getElem? hgb)).1 v (List.mem_of_mem_drop hv2)
            · rw [hgb] at hc0
              cases hc0
              simp at h8
          have hl1 : (H.modify b (fun q => (q.1, m_cpy f g sp.toNat dp.toNat nn.toNat))).length = H.length := by simp
          have hs1 : m_sz (H.modify b (fun q => (q.1, m_cpy f g sp.toNat dp.toNat nn.toNat))) = m_sz H := m_modsz H b _ (fun c hc0 => by
            rw [hgb] at hc0
            cases hc0
            exact m_cpy_len e1 e2)
          obtain ⟨b1, b2, b3, b4, b5⟩ := h hok (m_okS_tl t4)
          rw [hl1] at b3
          rw [hs1] at b4
          refine ⟨b1, b2, b3, b4, fun l D K B kh mc ms p e s m args below meth c k0 n0 hc hk hn0 => ?_⟩
          have hp := b5 l D K B kh mc ms p e s m args below meth c k0 n0 hc (by rw [hl1]; exact hk) (by rw [hs1]; exact hn0)
          have hx : i = .invokestatic x := by
            cases i with
            | invokestatic x' => cases hi; rfl
            | invokevirtual x' => cases hi; simp [m_fit] at hfit
            | invokespecial x' => cases hi; simp [m_fit] at hfit
            | _ => exact absurd hi (by simp [m_inv])
          subst hx
          exact s_copy hc hm hd hf hgb (m_okS_hd o3) (m_okS_hd t1) (m_okS_hd t3) hn hdp hsp q1 q2 h8 hp
        · cases hb
      · cases hb
    · cases hb
  · split at hb
    · rename_i b a r0
      cases hb
      have hbi := m_okS_hd o3
      have hai := m_okS_hd (m_okS_tl o3)
      have hin : m_in (if a < b then b else a) = true := by split <;> assumption
      obtain ⟨b1, b2, b3, b4, b5⟩ := h o1 (m_okS_I hin (m_okS_tl (m_okS_tl o3)))
      refine ⟨b1, b2, b3, b4, fun l D K B kh mc ms p e s m args below meth c k0 n0 hc hk hn0 => ?_⟩
      have hp := b5 l D K B kh mc ms p e s m args below meth c k0 n0 hc hk hn0
      have hx : i = .invokestatic x := by
        cases i with
        | invokestatic x' => cases hi; rfl
        | invokevirtual x' => cases hi; simp [m_fit] at hfit
        | invokespecial x' => cases hi; simp [m_fit] at hfit
        | _ => exact absurd hi (by simp [m_inv])
      subst hx
      exact s_max hc hm hd hai hbi (by simp at h8; omega) (by omega) (by omega) hp
    · cases hb
  · split at hb
    · rename_i b a r0
      cases hb
      have hbi := m_okS_hd o3
      have hai := m_okS_hd (m_okS_tl o3)
      have hin : m_in (if b < a then b else a) = true := by split <;> assumption
      obtain ⟨b1, b2, b3, b4, b5⟩ := h o1 (m_okS_I hin (m_okS_tl (m_okS_tl o3)))
      refine ⟨b1, b2, b3, b4, fun l D K B kh mc ms p e s m args below meth c k0 n0 hc hk hn0 => ?_⟩
      have hp := b5 l D K B kh mc ms p e s m args below meth c k0 n0 hc hk hn0
      have hx : i = .invokestatic x := by
        cases i with
        | invokestatic x' => cases hi; rfl
        | invokevirtual x' => cases hi; simp [m_fit] at hfit
        | invokespecial x' => cases hi; simp [m_fit] at hfit
        | _ => exact absurd hi (by simp [m_inv])
      subst hx
      exact s_min hc hm hd hai hbi (by simp at h8; omega) (by omega) (by omega) hp
    · cases hb
  · cases hb
theorem m_ret_S {d y pc i1 : Nat} {ls : List mV} {H : mH} (hg : m_get y pc = some (.return_, i1)) (o1 : m_okH H) (hr : m_rt y = none) : m_S d y pc ls [] H none H := by
  have hd := m_dec hg
  have hi := m_iok_at hg
  obtain rfl : i1 = 1 := by simpa [m_iok] using hi
  refine ⟨o1, (fun k h => by cases h), Nat.le_refl _, Nat.le_refl _, fun l D K B kh mc ms p e s m args below meth c k n hc hk hn => ?_⟩
  intro hkk Hr locs lsr hP hS hl T hT X
  have hz := m_size hkk hP hS hc.2.2.2.2.2.2.2.2.2 hT X
  have hlocks := hc.2.2.2.2.2.2.1
  exact (W.widen (k := mc) (n := ms) (by omega) (by omega) (W.vret hc.1 hc.2.1 (by rw [hc.2.2.1]; exact hr) (fun t ht hW => ⟨rfl, by rw [ht]; exact hz, by rw [ht]; exact hP, hS.F ht⟩) hS.2.2 hd)) T hT X
theorem m_iret_S {d y pc i1 : Nat} {v : Int} {ls : List mV} {H : mH} (hg : m_get y pc = some (.ireturn, i1)) (o1 : m_okH H) (hv : m_in v = true) (hr : m_rok y v = true) : m_S d y pc ls [mI v] H (mI v) H := by
  have hd := m_dec hg
  have hi := m_iok_at hg
  obtain rfl : i1 = 1 := by simpa [m_iok] using hi
  refine ⟨o1, m_okVI hv, Nat.le_refl _, Nat.le_refl _, fun l D K B kh mc ms p e s m args below meth c k n hc hk hn => ?_⟩
  intro hkk Hr locs lsr hP hS hl T hT X
  have hz := m_size hkk hP hS hc.2.2.2.2.2.2.2.2.2 hT X
  have hlocks := hc.2.2.2.2.2.2.1
  simp only [m_rok, Bool.or_eq_true, Bool.and_eq_true, decide_eq_true_eq, beq_iff_eq] at hr
  rcases hr with hr | ⟨hr, hv01⟩
  · exact (W.widen (k := mc) (n := ms) (by omega) (by omega) (W.iret (v := Int32.ofInt v) hc.1 hc.2.1 (by rw [hc.2.2.1]; exact hr) (fun t ht hW => ⟨rfl, by rw [ht]; exact hz, by rw [ht]; exact hP, hS.F ht⟩) hS.2.2 hd)) T hT X
  · exact (W.widen (k := mc) (n := ms) (by omega) (by omega) (W.zret (v := Int32.ofInt v) (ty := .boolean) hc.1 hc.2.1 (by rw [hc.2.2.1]; exact hr) (by rcases hv01 with rfl | rfl <;> rfl) (fun t ht hW => ⟨rfl, by rw [ht]; exact hz, by rw [ht]; exact hP, hS.F ht⟩) hS.2.2 hd)) T hT X
/-- the two methods that read a static array -/
def m_Prims : Prop := ∀ (d z : Nat) (av : List mV) (H : mH) (r : mV), m_prim z = true → m_pv z av = some r → m_okS av → m_okH H → m_CM d z av H r H
theorem ev_sound (hpr : m_Prims) : ∀ (N d y pc : Nat) (ls st : List mV) (H : mH) (r : mV) (H' : mH), y < 163 → ev N d y pc ls st H = some (r, H') → m_okH H → m_okL ls → m_okS st → ls.length = m_mx y → m_S d y pc ls st H r H' := by
  intro N
  induction N with
  | zero => intro d y pc ls st H r H' _ h; cases h
  | succ N ih =>
    intro d y pc ls st H r H' hy h o1 o2 o3 hL
    simp only [ev] at h
    split at h
    · cases h
    · rename_i i len hg
      split at h
      · split at h
        · rename_i hcond
          cases h
          obtain ⟨rfl, hr⟩ := hcond
          exact m_ret_S hg o1 hr
        · cases h
      · split at h
        · split at h
          · cases h
            exact m_iret_S hg o1 (m_okS_hd o3) (by assumption)
          · cases h
        · cases h
      · split at h
        · split at h
          · rename_i hnext
            have ht := m_next_ok hg hnext o1 o2 o3 hL
            exact m_S_step ht (ih _ _ _ _ _ _ _ _ hy h ht.1 ht.2.1 ht.2.2.1 ht.2.2.2.1)
          · cases h
        · split at h
          · rename_i j x hinv _ _ k z d0 hml
            split at h
            · rename_i hfit
              obtain ⟨hlen3, hfit⟩ := hfit
              split at h
              · split at h
                · split at h
                  · rename_i hblt h8
                    exact m_blt_S hlen3 hg hinv hml hfit o1 o3 hblt h8 (fun q1 q3 => ih _ _ _ _ _ _ _ _ hy h q1 o2 q3 hL)
                  · cases h
                · cases h
              · rename_i hk5
                split at h
                · rename_i hcond
                  obtain ⟨hna, h8, hrcv⟩ := hcond
                  have hz163 : z < 163 := by
                    obtain ⟨p1, p2, p3, p4, hlok⟩ := m_ml_ok hml
                    have hk : k = 0 ∨ k = 1 ∨ k = 2 ∨ k = 3 ∨ k = 4 := by omega
                    rcases hk with rfl | rfl | rfl | rfl | rfl <;> simp only [m_lok, Bool.and_eq_true, decide_eq_true_eq] at hlok
                    · exact hlok.1.1.1.1.1.1.1
                    · exact hlok.1.1.1.1
                    · exact hlok.1.1.1.1.1.1.1
                    · exact hlok.1.1.1.1
                    · exact hlok.1.1.1.1.1.1.1
                  have hst : st = (st.take (m_na z)).reverse.reverse ++ st.drop (m_na z) := by simp
                  have oA : m_okS (st.take (m_na z)).reverse := fun v hv => o3 v (List.mem_of_mem_take (List.mem_reverse.mp hv))
                  have oD : m_okS (st.drop (m_na z)) := fun v hv => o3 v (List.mem_of_mem_drop hv)
                  have hn : (st.take (m_na z)).reverse.length = m_na z := by simp; omega
                  split at h
                  · rename_i hprim
                    split at h
                    · rename_i r1 hpv
                      have hM := hpr d0 z _ H r1 hprim hpv oA o1
                      have hr1 : ∃ v, r1 = mI v ∧ m_in v = true := by
                        unfold m_pv at hpv
                        split at hpv
                        · split at hpv
                          · cases hpv
                            refine ⟨_, rfl, ?_⟩
                            split
                            · decide
                            · split <;> decide
                          · cases hpv
                        · split at hpv
                          · cases hpv
                            refine ⟨_, rfl, ?_⟩
                            repeat' split
                            all_goals decide
                          · cases hpv
                        · cases hpv
                      obtain ⟨v, rfl, hv⟩ := hr1
                      have hS := ih _ _ _ _ _ _ _ _ hy h o1 o2 (m_okS_I hv oD) hL
                      rw [hst]
                      exact m_call_S (av := (st.take (m_na z)).reverse) (st := st.drop (m_na z)) hlen3 hg hinv hml hfit hk5 hM hrcv hn h8 (Nat.le_refl _) (Nat.le_refl _) hS
                    · cases h
                  · split at h
                    · rename_i r1 H1 hev
                      have hmx := (m_mok_spec hz163).2.2.1
                      have hS1 := ih _ _ _ _ _ _ _ _ hz163 hev o1 (fun v hv => by
                        rcases List.mem_append.mp hv with hv | hv
                        · exact (oA v hv).1
                        · rw [(List.mem_replicate.mp hv).2]
                          exact fun k e => by cases e) (fun v hv => by cases hv) (by
                        rw [List.length_append, hn, List.length_replicate]
                        omega)
                      obtain ⟨b1, b2, b3, b4, b5⟩ := hS1
                      have hM : m_CM d0 z (st.take (m_na z)).reverse H r1 H1 := fun l D K B kh => m_met_of hz163 hn (fun p e s m A below meth c hc => b5 l D K B kh _ _ p e s m A below meth c 0 0 hc (by omega) (by omega))
                      have oP : m_okS (m_push r1 (st.drop (m_na z))) := by
                        unfold m_push
                        cases r1 with
                        | none => exact oD
                        | some w => exact m_okS_cons b2 (by simp) oD
                      have hS := ih _ _ _ _ _ _ _ _ hy h b1 o2 oP hL
                      rw [hst]
                      exact m_call_S (av := (st.take (m_na z)).reverse) (st := st.drop (m_na z)) hlen3 hg hinv hml hfit hk5 hM hrcv hn h8 b3 b4 hS
                    · cases h
                · cases h
            · cases h
          · cases h
end
section
/-! numbersOf and highestOf: the static array's cell lies before all of ours -/
section MPR
variable {l : Launch} {D : va_G} {K : mK} {B kh d mc ms y : Nat} {p : Program} {e : Env} {s : State} {m : MethodId} {args : Array Value} {below : List Frame} {meth : Method} {c : Code} {Q : State → Prop} {pc : Nat} {ls st : List mV} {H : mH} {k n : Nat}
theorem m_khw : Cond.fieldLink RX3 80 RX3 "KIND_HIGHEST" "[I" ∈ m_tbl := m_at_in (i := 392) (by decide +kernel)
theorem s_khlen (hy : m_own y = 3) (hc : m_ctx D K B kh y p s m args meth c) (hd : decode (m_by y) pc = .ok (.getstatic 80, 3)) (hd2 : decode (m_by y) (pc + 3) = .ok (.arraylength, 1)) (h : m_P l D K B d mc ms y p e s m args below meth c Q (pc + 4) ls (mI 6 :: st) H k n) : m_P l D K B d mc ms y p e s m args below meth c Q pc ls st H k n := by
  intro hk Hr locs lsr hP hS hl
  obtain ⟨-, -, -, hZ, hX, hkh⟩ := hc.2.2.2.2.2.2.2.2.1
  have hB := hc.2.2.2.2.2.2.2.2.2
  refine va_gets hc.1 hc.2.1 hZ hS hc.2.2.2.2.1 (by rw [hy]; exact hc.2.2.2.2.2.1 _ m_khw) (fun _ h9 => h9) hd ?_
  exact va_slen hc.1 hc.2.1 hX (by omega) (by omega) hS hd2 (h hk Hr locs lsr hP hS hl)
theorem s_khget (hy : m_own y = 3) (hc : m_ctx D K B kh y p s m args meth c) {i : Int} (hd : decode (m_by y) pc = .ok (.getstatic 80, 3)) (hd1 : decode (m_by y) (pc + 3) = .ok (.iload_n 1, 1)) (hd2 : decode (m_by y) (pc + 4) = .ok (.iaload, 1)) (h1 : ls[1]? = some (mI i)) (hi : 0 ≤ i ∧ i < 6) (h : m_P l D K B d mc ms y p e s m args below meth c Q (pc + 5) ls (mI (if i = 4 then 5 else 9) :: st) H k n) : m_P l D K B d mc ms y p e s m args below meth c Q pc ls st H k n := by
  intro hk Hr locs lsr hP hS hl
  obtain ⟨-, -, -, hZ, hX, hkh⟩ := hc.2.2.2.2.2.2.2.2.1
  have hB := hc.2.2.2.2.2.2.2.2.2
  have hin : m_in i = true := by rw [m_in_iff]; omega
  refine va_gets hc.1 hc.2.1 hZ hS hc.2.2.2.2.1 (by rw [hy]; exact hc.2.2.2.2.2.1 _ m_khw) (fun _ h9 => h9) hd ?_
  refine lv_iload_n hc.1 hc.2.1 hd1 rfl (hl.2.2 _ _ h1) ?_
  refine va_sld hc.1 hc.2.1 hX (by omega) (by omega) hS (m_vin hin hi.1 (by omega)) hd2 ?_
  have e1 : m_kh (Int32.ofInt i).toNatClampNeg = Int32.ofInt (if i = 4 then 5 else 9) := by
    rw [m_nat hin]
    unfold m_kh
    by_cases h4 : i = 4
    · rw [if_pos h4, if_pos (by omega)]; rfl
    · rw [if_neg h4, if_neg (by omega)]; rfl
  rw [e1]
  exact h hk Hr locs lsr hP hS hl
end MPR
theorem m_prims : m_Prims := by
  intro d z av H r hz hpv oA oH l D K B kh
  unfold m_pv at hpv
  split at hpv
  · rename_i cv
    split at hpv
    · rename_i h25
      subst h25
      cases hpv
      have hcv : m_in cv = true := m_okS_hd oA
      refine m_met_of (by decide) rfl (fun p e s m A below meth c hc => ?_)
      rw [Nat.sub_self, Nat.sub_self]
      have ret : ∀ (pc : Nat) (v : Int), m_get 25 pc = some (.ireturn, 1) → m_in v = true → m_P l D K B d 0 0 25 p e s m A below meth c (MQ below (m_Qc D K B (mI v) H) A s 0 0 (fun q => B ≤ q)) pc [mI cv] [mI v] H 0 0 := fun pc v hg hv => (m_iret_S (d := d) (ls := [mI cv]) hg oH hv rfl).2.2.2.2 l D K B kh 0 0 p e s m A below meth c 0 0 hc (by omega) (by omega)
      refine s_iload_n (v := cv) hc (m_dec (by decide +kernel : m_get 25 0 = some (.iload_n 0, 1))) rfl ?_
      have hsw := m_dec (by decide +kernel : m_get 25 1 = some (.lookupswitch 42 #[(107, 35), (115, 40), (119, 40)], 35))
      by_cases h1 : cv = 107
      · rw [if_pos h1]
        refine s_lookup (tgt := 36) hc hsw hcv (by decide) (by simp [Op.lookupswitch.offset, h1, m_jmp]) ?_
        exact s_khlen rfl hc (m_dec (by decide +kernel : m_get 25 36 = some (.getstatic 80, 3))) (m_dec (by decide +kernel : m_get 25 39 = some (.arraylength, 1))) (ret 40 6 (by decide +kernel) (by decide))
      · rw [if_neg h1]
        by_cases h2 : cv = 115 ∨ cv = 119
        · rw [if_pos h2]
          refine s_lookup (tgt := 41) hc hsw hcv (by decide) (by rcases h2 with rfl | rfl <;> simp [Op.lookupswitch.offset, m_jmp]) ?_
          exact s_iconst hc (m_dec (by decide +kernel : m_get 25 41 = some (.iconst 2, 1))) (ret 42 2 (by decide +kernel) (by decide))
        · rw [if_neg h2]
          refine s_lookup (tgt := 43) hc hsw hcv (by decide) (by simp [Op.lookupswitch.offset, m_jmp]; omega) ?_
          exact s_iconst hc (m_dec (by decide +kernel : m_get 25 43 = some (.iconst 1, 1))) (ret 44 1 (by decide +kernel) (by decide))
    · cases hpv
  · rename_i cv iv
    split at hpv
    · rename_i h27
      subst h27
      cases hpv
      have hcv : m_in cv = true := m_okS_hd oA
      have hiv : m_in iv = true := m_okS_hd (m_okS_tl oA)
      refine m_met_of (by decide) rfl (fun p e s m A below meth c hc => ?_)
      rw [Nat.sub_self, Nat.sub_self]
      have ret : ∀ (pc : Nat) (v : Int), m_get 27 pc = some (.ireturn, 1) → m_in v = true → m_P l D K B d 0 0 27 p e s m A below meth c (MQ below (m_Qc D K B (mI v) H) A s 0 0 (fun q => B ≤ q)) pc [mI cv, mI iv] [mI v] H 0 0 := fun pc v hg hv => (m_iret_S (d := d) (ls := [mI cv, mI iv]) hg oH hv rfl).2.2.2.2 l D K B kh 0 0 p e s m A below meth c 0 0 hc (by omega) (by omega)
      refine s_iload_n (v := cv) hc (m_dec (by decide +kernel : m_get 27 0 = some (.iload_n 0, 1))) rfl ?_
      have hsw := m_dec (by decide +kernel : m_get 27 1 = some (.lookupswitch 78 #[(107, 35), (115, 67), (119, 57)], 35))
      by_cases h1 : cv = 107
      · rw [if_pos h1]
        refine s_lookup (tgt := 36) hc hsw hcv (by decide) (by simp [Op.lookupswitch.offset, h1, m_jmp]) ?_
        refine s_iload_n (v := iv) hc (m_dec (by decide +kernel : m_get 27 36 = some (.iload_n 1, 1))) rfl ?_
        refine s_if (tgt := 56) hc (m_dec (by decide +kernel : m_get 27 37 = some (.ifCond .lt 19, 3))) (by decide) hiv (fun q => ?_) (fun q => ?_)
        · have q : iv < 0 := by simpa [m_cmp] using q
          rw [if_neg (by omega)]
          exact s_iconst hc (m_dec (by decide +kernel : m_get 27 56 = some (.iconst (-1), 1))) (ret 57 (-1) (by decide +kernel) (by decide))
        · have q : 0 ≤ iv := by simpa [m_cmp] using q
          refine s_iload_n (v := iv) hc (m_dec (by decide +kernel : m_get 27 40 = some (.iload_n 1, 1))) rfl ?_
          refine s_khlen rfl hc (m_dec (by decide +kernel : m_get 27 41 = some (.getstatic 80, 3))) (m_dec (by decide +kernel : m_get 27 44 = some (.arraylength, 1))) ?_
          refine s_icmp (tgt := 56) hc (m_dec (by decide +kernel : m_get 27 45 = some (.if_icmp .ge 11, 3))) (by decide) hiv (by decide) (fun q2 => ?_) (fun q2 => ?_)
          · have q2 : 6 ≤ iv := by simpa [m_cmp] using q2
            rw [if_neg (by omega)]
            exact s_iconst hc (m_dec (by decide +kernel : m_get 27 56 = some (.iconst (-1), 1))) (ret 57 (-1) (by decide +kernel) (by decide))
          · have q2 : iv < 6 := by simpa [m_cmp] using q2
            rw [if_pos (by omega)]
            refine s_khget rfl hc (m_dec (by decide +kernel : m_get 27 48 = some (.getstatic 80, 3))) (m_dec (by decide +kernel : m_get 27 51 = some (.iload_n 1, 1))) (m_dec (by decide +kernel : m_get 27 52 = some (.iaload, 1))) rfl ⟨q, q2⟩ ?_
            exact s_goto (tgt := 57) hc (m_dec (by decide +kernel : m_get 27 53 = some (.goto 4, 3))) (by decide) (ret 57 _ (by decide +kernel) (by split <;> decide))
      · rw [if_neg h1]
        by_cases h2 : cv = 119
        · rw [if_pos h2]
          refine s_lookup (tgt := 58) hc hsw hcv (by decide) (by simp [Op.lookupswitch.offset, h2, m_jmp]) ?_
          refine s_iload_n (v := iv) hc (m_dec (by decide +kernel : m_get 27 58 = some (.iload_n 1, 1))) rfl ?_
          refine s_if (tgt := 66) hc (m_dec (by decide +kernel : m_get 27 59 = some (.ifCond .ne 7, 3))) (by decide) hiv (fun q => ?_) (fun q => ?_)
          · have q : ¬ iv = 0 := by simpa [m_cmp] using q
            rw [if_neg q]
            exact s_iconst hc (m_dec (by decide +kernel : m_get 27 66 = some (.iconst 2, 1))) (ret 67 2 (by decide +kernel) (by decide))
          · have q : iv = 0 := by simpa [m_cmp] using q
            rw [if_pos q]
            exact s_iconst hc (m_dec (by decide +kernel : m_get 27 62 = some (.iconst 3, 1))) (s_goto (tgt := 67) hc (m_dec (by decide +kernel : m_get 27 63 = some (.goto 4, 3))) (by decide) (ret 67 3 (by decide +kernel) (by decide)))
        · rw [if_neg h2]
          by_cases h3 : cv = 115
          · rw [if_pos h3]
            refine s_lookup (tgt := 68) hc hsw hcv (by decide) (by simp [Op.lookupswitch.offset, h3, m_jmp]) ?_
            refine s_iload_n (v := iv) hc (m_dec (by decide +kernel : m_get 27 68 = some (.iload_n 1, 1))) rfl ?_
            refine s_if (tgt := 77) hc (m_dec (by decide +kernel : m_get 27 69 = some (.ifCond .ne 8, 3))) (by decide) hiv (fun q => ?_) (fun q => ?_)
            · have q : ¬ iv = 0 := by simpa [m_cmp] using q
              rw [if_neg q]
              exact s_iconst hc (m_dec (by decide +kernel : m_get 27 77 = some (.iconst 4, 1))) (ret 78 4 (by decide +kernel) (by decide))
            · have q : iv = 0 := by simpa [m_cmp] using q
              rw [if_pos q]
              exact s_bipush hc (m_dec (by decide +kernel : m_get 27 72 = some (.bipush 9, 2))) (by decide) (s_goto (tgt := 78) hc (m_dec (by decide +kernel : m_get 27 74 = some (.goto 4, 3))) (by decide) (ret 78 9 (by decide +kernel) (by decide)))
          · rw [if_neg h3]
            refine s_lookup (tgt := 79) hc hsw hcv (by decide) (by simp [Op.lookupswitch.offset, m_jmp]; omega) ?_
            exact s_bipush hc (m_dec (by decide +kernel : m_get 27 79 = some (.bipush 9, 2))) (by decide) (ret 81 9 (by decide +kernel) (by decide))
    · cases hpv
  · cases hpv
end
section
/-! a method's run as a whole -/
def Call (d y : Nat) (av : List mV) (H : mH) (r : mV) (H1 : mH) : Prop := ∃ N, ev N d y 0 (av ++ List.replicate (m_mx y - m_na y) none) [] H = some (r, H1)
theorem Call_met {d y : Nat} {av : List mV} {H : mH} {r : mV} {H1 : mH} (h : Call d y av H r H1) (hy : y < 163) (ha : av.length = m_na y) (o1 : m_okH H) (o2 : m_okS av) : m_okH H1 ∧ m_okV r ∧ H.length ≤ H1.length ∧ m_sz H ≤ m_sz H1 ∧ m_CM d y av H r H1 := by
  obtain ⟨N, h⟩ := h
  have hmx := (m_mok_spec hy).2.2.1
  obtain ⟨b1, b2, b3, b4, b5⟩ := ev_sound m_prims N d y 0 _ _ _ _ _ hy h o1 (fun v hv => by
    rcases List.mem_append.mp hv with hv | hv
    · exact (o2 v hv).1
    · rw [(List.mem_replicate.mp hv).2]
      exact fun k e => by cases e) (fun v hv => by cases hv) (by
    rw [List.length_append, ha, List.length_replicate]
    omega)
  exact ⟨b1, b2, b3, b4, fun l D K B kh => m_met_of hy ha (fun p e s m A below meth c hc => b5 l D K B kh _ _ p e s m A below meth c 0 0 hc (by omega) (by omega))⟩
end
section
/-! runs from a place on: rules -/
theorem ev_mono : ∀ (N d y pc : Nat) (ls st : List mV) (H : mH) (x : mV × mH), ev N d y pc ls st H = some x → ∀ (M e : Nat), N ≤ M → d ≤ e → ev M e y pc ls st H = some x := by
  intro N
  induction N with
  | zero => intro d y pc ls st H x h; cases h
  | succ N ih =>
    intro d y pc ls st H x h M e hM he
    obtain ⟨M, rfl⟩ : ∃ M', M = M' + 1 := ⟨M - 1, by omega⟩
    have hM' : N ≤ M := by omega
    cases hg : m_get y pc with
    | none => simp only [ev, hg] at h; cases h
    | some q =>
      obtain ⟨i, len⟩ := q
      by_cases m1 : i = .return_
      · subst m1
        simp only [ev, hg] at h ⊢
        exact h
      by_cases m2 : i = .ireturn
      · subst m2
        simp only [ev, hg] at h ⊢
        exact h
      simp only [ev, hg] at h ⊢
      · · split at h
          · rename_i hinv
            try rw [hinv]
            try simp only
            split at h
            · rename_i hnext
              try rw [hnext]
              exact ih _ _ _ _ _ _ _ h M e hM' he
            · cases h
          · rename_i j xx hinv
            try rw [hinv]
            try simp only
            split at h
            · rename_i k z d0 hml
              obtain ⟨e, rfl⟩ : ∃ e', e = e' + 1 := ⟨e - 1, by omega⟩
              try rw [hml]
              try simp only
              split at h
              · rename_i hfit
                rw [if_pos hfit]
                split at h
                · rename_i hk
                  rw [if_pos hk]
                  split at h
                  · rename_i hblt
                    try rw [hblt]
                    try simp only
                    split at h
                    · rename_i h8
                      rw [if_pos h8]
                      exact ih _ _ _ _ _ _ _ h M _ hM' (by omega)
                    · cases h
                  · cases h
                · rename_i hk
                  rw [if_neg hk]
                  split at h
                  · rename_i hc
                    rw [if_pos hc]
                    split at h
                    · rename_i hp
                      rw [if_pos hp]
                      split at h
                      · rename_i hpv
                        try rw [hpv]
                        exact ih _ _ _ _ _ _ _ h M _ hM' (by omega)
                      · cases h
                    · rename_i hp
                      rw [if_neg hp]
                      split at h
                      · rename_i hev
                        rw [ih _ _ _ _ _ _ _ hev M e hM' (by omega)]
                        exact ih _ _ _ _ _ _ _ h M _ hM' (by omega)
                      · cases h
                  · cases h
              · cases h
            · cases h
def Ev (d y pc : Nat) (ls st : List mV) (H : mH) (r : mV) (H1 : mH) : Prop := ∃ N, ev N d y pc ls st H = some (r, H1)
theorem Call_up {d e y : Nat} {av : List mV} {H : mH} {r : mV} {H1 : mH} (h : Call d y av H r H1) (he : d ≤ e) : Call e y av H r H1 := by
  obtain ⟨N, h⟩ := h
  exact ⟨N, ev_mono _ _ _ _ _ _ _ _ h N e (Nat.le_refl _) he⟩
theorem Call_of {d y : Nat} {av ls : List mV} {H : mH} {r : mV} {H1 : mH} (hl : av ++ List.replicate (m_mx y - m_na y) none = ls) (h : Ev d y 0 ls [] H r H1) : Call d y av H r H1 := by
  obtain ⟨N, h⟩ := h
  exact ⟨N, by rw [hl]; exact h⟩
theorem Ev_cast {d y pc : Nat} {ls ls' st st' : List mV} {H H' : mH} {r : mV} {H1 : mH} (h : Ev d y pc ls st H r H1) (e1 : ls' = ls) (e2 : H' = H) (e3 : st' = st := by rfl) : Ev d y pc ls' st' H' r H1 := by subst e1; subst e2; subst e3; exact h
/-- the loop rule: down from the end -/
theorem E_loop {n : Nat} (C : Nat → Prop) (hs : ∀ i, i < n → C (i + 1) → C i) (he : C n) : ∀ i, i ≤ n → C i := by
  intro i hi
  obtain ⟨k, hk⟩ : ∃ k, n = i + k := ⟨n - i, by omega⟩
  induction k generalizing i with
  | zero => rw [show i = n by omega]; exact he
  | succ k ih => exact hs i (by omega) (ih (i + 1) (by omega) (by omega))
section EV
variable {d y pc pc' : Nat} {ls st : List mV} {H : mH} {r : mV} {H1 : mH}
theorem E_next {i : Instr} {len : Nat} {ls' st' : List mV} {H' : mH} (hg : m_get y pc = some (i, len)) (hi : m_inv i = none) (n1 : i ≠ .return_) (n2 : i ≠ .ireturn) (hn : m_next y i len pc ls st H = some (pc', ls', st', H')) (h : Ev d y pc' ls' st' H' r H1) : Ev d y pc ls st H r H1 := by
  obtain ⟨N, h⟩ := h
  refine ⟨N + 1, ?_⟩
  simp only [ev, hg, hi, hn]
  exact h
theorem E_iconst {n : Int} (hg : m_get y pc = some (.iconst n, 1)) (hn : m_in n = true) (hp : pc + 1 = pc') (h : Ev d y pc' ls (mI n :: st) H r H1) : Ev d y pc ls st H r H1 :=
  E_next hg rfl (by simp) (by simp) (by simp [m_next, hn, hp]) h
theorem E_bipush {n : Int} (hg : m_get y pc = some (.bipush n, 2)) (hn : -128 ≤ n ∧ n ≤ 127) (hp : pc + 2 = pc') (h : Ev d y pc' ls (mI n :: st) H r H1) : Ev d y pc ls st H r H1 :=
  E_next hg rfl (by simp) (by simp) (by simp [m_next, hn, hp]) h
theorem E_sipush {n : Int} (hg : m_get y pc = some (.sipush n, 3)) (hn : -32768 ≤ n ∧ n ≤ 32767) (hp : pc + 3 = pc') (h : Ev d y pc' ls (mI n :: st) H r H1) : Ev d y pc ls st H r H1 :=
  E_next hg rfl (by simp) (by simp) (by simp [m_next, hn, hp]) h
theorem E_ldcw {x : Nat} {v : Int} (hg : m_get y pc = some (.ldc_w x, 3)) (hv : m_cn (m_own y) x = some v) (hn : m_in v = true) (hp : pc + 3 = pc') (h : Ev d y pc' ls (mI v :: st) H r H1) : Ev d y pc ls st H r H1 :=
  E_next hg rfl (by simp) (by simp) (by simp [m_next, hv, hn, hp]) h
theorem E_iload_n {k : Fin 4} {v : Int} (hg : m_get y pc = some (.iload_n k, 1)) (hv : ls[(k : Nat)]? = some (mI v)) (hp : pc + 1 = pc') (h : Ev d y pc' ls (mI v :: st) H r H1) : Ev d y pc ls st H r H1 :=
  E_next hg rfl (by simp) (by simp) (by simp [m_next, hv, hp]) h
theorem E_iload {k : Nat} {v : Int} (hg : m_get y pc = some (.iload k, 2)) (hv : ls[k]? = some (mI v)) (hp : pc + 2 = pc') (h : Ev d y pc' ls (mI v :: st) H r H1) : Ev d y pc ls st H r H1 :=
  E_next hg rfl (by simp) (by simp) (by simp [m_next, hv, hp]) h
theorem E_aload_n {k : Fin 4} {v : Nat} (hg : m_get y pc = some (.aload_n k, 1)) (hv : ls[(k : Nat)]? = some (mR v)) (hp : pc + 1 = pc') (h : Ev d y pc' ls (mR v :: st) H r H1) : Ev d y pc ls st H r H1 :=
  E_next hg rfl (by simp) (by simp) (by simp [m_next, hv, hp]) h
theorem E_istore_n {k : Fin 4} {v : Int} {ls' : List mV} (hg : m_get y pc = some (.istore_n k, 1)) (hk : (k : Nat) < ls.length) (hl : ls.set (k : Nat) (mI v) = ls') (hp : pc + 1 = pc') (h : Ev d y pc' ls' st H r H1) : Ev d y pc ls (mI v :: st) H r H1 :=
  E_next hg rfl (by simp) (by simp) (by simp only [m_next, hk, hp, if_true]; rw [← hl]) h
theorem E_istore {k : Nat} {v : Int} {ls' : List mV} (hg : m_get y pc = some (.istore k, 2)) (hk : k < ls.length) (hl : ls.set k (mI v) = ls') (hp : pc + 2 = pc') (h : Ev d y pc' ls' st H r H1) : Ev d y pc ls (mI v :: st) H r H1 :=
  E_next hg rfl (by simp) (by simp) (by simp only [m_next, hk, hp, if_true]; rw [← hl]) h
theorem E_astore_n {k : Fin 4} {v : Nat} {ls' : List mV} (hg : m_get y pc = some (.astore_n k, 1)) (hk : (k : Nat) < ls.length) (hl : ls.set (k : Nat) (mR v) = ls') (hp : pc + 1 = pc') (h : Ev d y pc' ls' st H r H1) : Ev d y pc ls (mR v :: st) H r H1 :=
  E_next hg rfl (by simp) (by simp) (by simp only [m_next, hk, hp, if_true]; rw [← hl]) h
theorem E_iinc {k : Nat} {n v : Int} {ls' : List mV} (hg : m_get y pc = some (.iinc k n, 3)) (hv : ls[k]? = some (mI v)) (hn : m_in (v + n) = true) (hl : ls.set k (mI (v + n)) = ls') (hp : pc + 3 = pc') (h : Ev d y pc' ls' st H r H1) : Ev d y pc ls st H r H1 :=
  E_next hg rfl (by simp) (by simp) (by simp only [m_next, hv, hn, hp, if_true]; rw [← hl]) h
theorem E_iadd {a b : Int} (hg : m_get y pc = some (.iadd, 1)) (hn : m_in (a + b) = true) (hp : pc + 1 = pc') (h : Ev d y pc' ls (mI (a + b) :: st) H r H1) : Ev d y pc ls (mI b :: mI a :: st) H r H1 :=
  E_next hg rfl (by simp) (by simp) (by simp [m_next, m_bin, hn, hp]) h
theorem E_isub {a b : Int} (hg : m_get y pc = some (.isub, 1)) (hn : m_in (a - b) = true) (hp : pc + 1 = pc') (h : Ev d y pc' ls (mI (a - b) :: st) H r H1) : Ev d y pc ls (mI b :: mI a :: st) H r H1 :=
  E_next hg rfl (by simp) (by simp) (by simp [m_next, m_bin, hn, hp]) h
theorem E_imul {a b : Int} (hg : m_get y pc = some (.imul, 1)) (hn : m_in (a * b) = true) (hp : pc + 1 = pc') (h : Ev d y pc' ls (mI (a * b) :: st) H r H1) : Ev d y pc ls (mI b :: mI a :: st) H r H1 :=
  E_next hg rfl (by simp) (by simp) (by simp [m_next, m_bin, hn, hp]) h
theorem E_idiv {a b : Int} (hg : m_get y pc = some (.idiv, 1)) (hn : ¬ (b = 0 ∨ b = -1)) (hp : pc + 1 = pc') (h : Ev d y pc' ls (mI (a.tdiv b) :: st) H r H1) : Ev d y pc ls (mI b :: mI a :: st) H r H1 :=
  E_next hg rfl (by simp) (by simp) (by simp only [m_next, hp]; rw [if_neg hn]) h
theorem E_irem {a b : Int} (hg : m_get y pc = some (.irem, 1)) (hn : ¬ (b = 0 ∨ b = -1)) (hp : pc + 1 = pc') (h : Ev d y pc' ls (mI (a.tmod b) :: st) H r H1) : Ev d y pc ls (mI b :: mI a :: st) H r H1 :=
  E_next hg rfl (by simp) (by simp) (by simp only [m_next, hp]; rw [if_neg hn]) h
theorem E_iand {a b : Int} (hg : m_get y pc = some (.iand, 1)) (hp : pc + 1 = pc') (h : Ev d y pc' ls (mI (m_and a b) :: st) H r H1) : Ev d y pc ls (mI b :: mI a :: st) H r H1 :=
  E_next hg rfl (by simp) (by simp) (by simp only [m_next, hp]) h
theorem E_ior {a b : Int} (hg : m_get y pc = some (.ior, 1)) (hp : pc + 1 = pc') (h : Ev d y pc' ls (mI (m_or a b) :: st) H r H1) : Ev d y pc ls (mI b :: mI a :: st) H r H1 :=
  E_next hg rfl (by simp) (by simp) (by simp only [m_next, hp]) h
theorem E_ixor {a b : Int} (hg : m_get y pc = some (.ixor, 1)) (hp : pc + 1 = pc') (h : Ev d y pc' ls (mI (m_xor a b) :: st) H r H1) : Ev d y pc ls (mI b :: mI a :: st) H r H1 :=
  E_next hg rfl (by simp) (by simp) (by simp only [m_next, hp]) h
theorem E_ishl {a b : Int} (hg : m_get y pc = some (.ishl, 1)) (hp : pc + 1 = pc') (h : Ev d y pc' ls (mI (m_shl a b) :: st) H r H1) : Ev d y pc ls (mI b :: mI a :: st) H r H1 :=
  E_next hg rfl (by simp) (by simp) (by simp only [m_next, hp]) h
theorem E_ishr {a b : Int} (hg : m_get y pc = some (.ishr, 1)) (hp : pc + 1 = pc') (h : Ev d y pc' ls (mI (m_shr a b) :: st) H r H1) : Ev d y pc ls (mI b :: mI a :: st) H r H1 :=
  E_next hg rfl (by simp) (by simp) (by simp only [m_next, hp]) h
theorem E_iushr {a b : Int} (hg : m_get y pc = some (.iushr, 1)) (hp : pc + 1 = pc') (h : Ev d y pc' ls (mI (m_ushr a b) :: st) H r H1) : Ev d y pc ls (mI b :: mI a :: st) H r H1 :=
  E_next hg rfl (by simp) (by simp) (by simp only [m_next, hp]) h
theorem E_dup {v : Int ⊕ Nat} (hg : m_get y pc = some (.dup, 1)) (hp : pc + 1 = pc') (h : Ev d y pc' ls (some v :: some v :: st) H r H1) : Ev d y pc ls (some v :: st) H r H1 :=
  E_next hg rfl (by simp) (by simp) (by simp only [m_next, hp]) h
theorem E_dup2 {v w : Int ⊕ Nat} (hg : m_get y pc = some (.dup2, 1)) (hp : pc + 1 = pc') (h : Ev d y pc' ls (some v :: some w :: some v :: some w :: st) H r H1) : Ev d y pc ls (some v :: some w :: st) H r H1 :=
  E_next hg rfl (by simp) (by simp) (by simp only [m_next, hp]) h
theorem E_goto {off : Int} (hg : m_get y pc = some (.goto off, 3)) (hp : m_jmp pc off = some pc') (h : Ev d y pc' ls st H r H1) : Ev d y pc ls st H r H1 :=
  E_next hg rfl (by simp) (by simp) (by simp [m_next, hp]) h
theorem E_if {c : ClassFile.Cond} {off a : Int} {pt : Nat} (hg : m_get y pc = some (.ifCond c off, 3)) (hp : pc + 3 = pc') (ht : m_jmp pc off = some pt) (h1 : m_cmp c a 0 = true → Ev d y pt ls st H r H1) (h2 : m_cmp c a 0 = false → Ev d y pc' ls st H r H1) : Ev d y pc ls (mI a :: st) H r H1 := by
  cases hc : m_cmp c a 0 with
  | true => exact E_next hg rfl (by simp) (by simp) (by simp only [m_next, hc, ht]; rfl) (h1 hc)
  | false => exact E_next hg rfl (by simp) (by simp) (by simp [m_next, hc, hp]) (h2 hc)
theorem E_icmp {c : ClassFile.Cond} {off a b : Int} {pt : Nat} (hg : m_get y pc = some (.if_icmp c off, 3)) (hp : pc + 3 = pc') (ht : m_jmp pc off = some pt) (h1 : m_cmp c a b = true → Ev d y pt ls st H r H1) (h2 : m_cmp c a b = false → Ev d y pc' ls st H r H1) : Ev d y pc ls (mI b :: mI a :: st) H r H1 := by
  cases hc : m_cmp c a b with
  | true => exact E_next hg rfl (by simp) (by simp) (by simp only [m_next, hc, ht]; rfl) (h1 hc)
  | false => exact E_next hg rfl (by simp) (by simp) (by simp [m_next, hc, hp]) (h2 hc)
theorem E_ifeq {off a : Int} {pt : Nat} (hg : m_get y pc = some (.ifCond .eq off, 3)) (hp : pc + 3 = pc') (ht : m_jmp pc off = some pt) (h1 : a = 0 → Ev d y pt ls st H r H1) (h2 : ¬ a = 0 → Ev d y pc' ls st H r H1) : Ev d y pc ls (mI a :: st) H r H1 :=
  E_if hg hp ht (fun q => h1 (by simpa [m_cmp] using q)) (fun q => h2 (by simpa [m_cmp] using q))
theorem E_iceq {off a b : Int} {pt : Nat} (hg : m_get y pc = some (.if_icmp .eq off, 3)) (hp : pc + 3 = pc') (ht : m_jmp pc off = some pt) (h1 : a = b → Ev d y pt ls st H r H1) (h2 : ¬ a = b → Ev d y pc' ls st H r H1) : Ev d y pc ls (mI b :: mI a :: st) H r H1 :=
  E_icmp hg hp ht (fun q => h1 (by simpa [m_cmp] using q)) (fun q => h2 (by simpa [m_cmp] using q))
theorem E_ifne {off a : Int} {pt : Nat} (hg : m_get y pc = some (.ifCond .ne off, 3)) (hp : pc + 3 = pc') (ht : m_jmp pc off = some pt) (h1 : ¬ a = 0 → Ev d y pt ls st H r H1) (h2 : a = 0 → Ev d y pc' ls st H r H1) : Ev d y pc ls (mI a :: st) H r H1 :=
  E_if hg hp ht (fun q => h1 (by simpa [m_cmp] using q)) (fun q => h2 (by simpa [m_cmp] using q))
theorem E_icne {off a b : Int} {pt : Nat} (hg : m_get y pc = some (.if_icmp .ne off, 3)) (hp : pc + 3 = pc') (ht : m_jmp pc off = some pt) (h1 : ¬ a = b → Ev d y pt ls st H r H1) (h2 : a = b → Ev d y pc' ls st H r H1) : Ev d y pc ls (mI b :: mI a :: st) H r H1 :=
  E_icmp hg hp ht (fun q => h1 (by simpa [m_cmp] using q)) (fun q => h2 (by simpa [m_cmp] using q))
theorem E_iflt {off a : Int} {pt : Nat} (hg : m_get y pc = some (.ifCond .lt off, 3)) (hp : pc + 3 = pc') (ht : m_jmp pc off = some pt) (h1 : a < 0 → Ev d y pt ls st H r H1) (h2 : 0 ≤ a → Ev d y pc' ls st H r H1) : Ev d y pc ls (mI a :: st) H r H1 :=
  E_if hg hp ht (fun q => h1 (by simpa [m_cmp] using q)) (fun q => h2 (by simpa [m_cmp] using q))
theorem E_iclt {off a b : Int} {pt : Nat} (hg : m_get y pc = some (.if_icmp .lt off, 3)) (hp : pc + 3 = pc') (ht : m_jmp pc off = some pt) (h1 : a < b → Ev d y pt ls st H r H1) (h2 : b ≤ a → Ev d y pc' ls st H r H1) : Ev d y pc ls (mI b :: mI a :: st) H r H1 :=
  E_icmp hg hp ht (fun q => h1 (by simpa [m_cmp] using q)) (fun q => h2 (by simpa [m_cmp] using q))
theorem E_ifge {off a : Int} {pt : Nat} (hg : m_get y pc = some (.ifCond .ge off, 3)) (hp : pc + 3 = pc') (ht : m_jmp pc off = some pt) (h1 : 0 ≤ a → Ev d y pt ls st H r H1) (h2 : a < 0 → Ev d y pc' ls st H r H1) : Ev d y pc ls (mI a :: st) H r H1 :=
  E_if hg hp ht (fun q => h1 (by simpa [m_cmp] using q)) (fun q => h2 (by simpa [m_cmp] using q))
theorem E_icge {off a b : Int} {pt : Nat} (hg : m_get y pc = some (.if_icmp .ge off, 3)) (hp : pc + 3 = pc') (ht : m_jmp pc off = some pt) (h1 : b ≤ a → Ev d y pt ls st H r H1) (h2 : a < b → Ev d y pc' ls st H r H1) : Ev d y pc ls (mI b :: mI a :: st) H r H1 :=
  E_icmp hg hp ht (fun q => h1 (by simpa [m_cmp] using q)) (fun q => h2 (by simpa [m_cmp] using q))
theorem E_ifgt {off a : Int} {pt : Nat} (hg : m_get y pc = some (.ifCond .gt off, 3)) (hp : pc + 3 = pc') (ht : m_jmp pc off = some pt) (h1 : 0 < a → Ev d y pt ls st H r H1) (h2 : a ≤ 0 → Ev d y pc' ls st H r H1) : Ev d y pc ls (mI a :: st) H r H1 :=
  E_if hg hp ht (fun q => h1 (by simpa [m_cmp] using q)) (fun q => h2 (by simpa [m_cmp] using q))
theorem E_icgt {off a b : Int} {pt : Nat} (hg : m_get y pc = some (.if_icmp .gt off, 3)) (hp : pc + 3 = pc') (ht : m_jmp pc off = some pt) (h1 : b < a → Ev d y pt ls st H r H1) (h2 : a ≤ b → Ev d y pc' ls st H r H1) : Ev d y pc ls (mI b :: mI a :: st) H r H1 :=
  E_icmp hg hp ht (fun q => h1 (by simpa [m_cmp] using q)) (fun q => h2 (by simpa [m_cmp] using q))
theorem E_ifle {off a : Int} {pt : Nat} (hg : m_get y pc = some (.ifCond .le off, 3)) (hp : pc + 3 = pc') (ht : m_jmp pc off = some pt) (h1 : a ≤ 0 → Ev d y pt ls st H r H1) (h2 : 0 < a → Ev d y pc' ls st H r H1) : Ev d y pc ls (mI a :: st) H r H1 :=
  E_if hg hp ht (fun q => h1 (by simpa [m_cmp] using q)) (fun q => h2 (by simpa [m_cmp] using q))
theorem E_icle {off a b : Int} {pt : Nat} (hg : m_get y pc = some (.if_icmp .le off, 3)) (hp : pc + 3 = pc') (ht : m_jmp pc off = some pt) (h1 : a ≤ b → Ev d y pt ls st H r H1) (h2 : b < a → Ev d y pc' ls st H r H1) : Ev d y pc ls (mI b :: mI a :: st) H r H1 :=
  E_icmp hg hp ht (fun q => h1 (by simpa [m_cmp] using q)) (fun q => h2 (by simpa [m_cmp] using q))
theorem E_table {dd lo hi a : Int} {offs : Array Int} {len pt : Nat} (hg : m_get y pc = some (.tableswitch dd lo hi offs, len)) (ht : (if a < lo ∨ hi < a then m_jmp pc dd else (offs[(a - lo).toNat]?).bind (m_jmp pc)) = some pt) (h : Ev d y pt ls st H r H1) : Ev d y pc ls (mI a :: st) H r H1 :=
  E_next hg rfl (by simp) (by simp) (by simp only [m_next, ht]; rfl) h
theorem E_lookup {dd a : Int} {ps : Array (Int × Int)} {len pt : Nat} (hg : m_get y pc = some (.lookupswitch dd ps, len)) (hs : (ps.toList.zip (ps.toList.drop 1)).all (fun (a, next) => a.1 < next.1) = true) (ht : m_jmp pc (Op.lookupswitch.offset ps.toList dd a) = some pt) (h : Ev d y pt ls st H r H1) : Ev d y pc ls (mI a :: st) H r H1 :=
  E_next hg rfl (by simp) (by simp) (by simp only [m_next]; rw [if_pos hs, ht]; rfl) h
theorem E_getI {x ci k a t : Nat} {fs : List Int} {v : Int} (hg : m_get y pc = some (.getfield x, 3)) (hf : m_fl (m_own y) x = some (ci, k)) (ht : (m_tagL ci)[k]? = some t) (ht2 : t ≠ 2) (hp : pc + 3 = pc') (hH : H[a]? = some (ci, fs)) (hv : fs[k]? = some v) (h : Ev d y pc' ls (mI v :: st) H r H1) : Ev d y pc ls (mR a :: st) H r H1 :=
  E_next hg rfl (by simp) (by simp) (by simp [m_next, hf, hH, hv, ht, m_ld, ht2, hp]) h
theorem E_getR {x ci k a b : Nat} {fs : List Int} (hg : m_get y pc = some (.getfield x, 3)) (hf : m_fl (m_own y) x = some (ci, k)) (ht : (m_tagL ci)[k]? = some 2) (hp : pc + 3 = pc') (hH : H[a]? = some (ci, fs)) (hv : fs[k]? = some (b : Int)) (h : Ev d y pc' ls (mR b :: st) H r H1) : Ev d y pc ls (mR a :: st) H r H1 := by
  refine E_next (pc' := pc') (ls' := ls) (st' := mR b :: st) (H' := H) hg rfl (by simp) (by simp) ?_ h
  have : ¬ ((b : Int) < 0) := by omega
  simp [m_next, hf, hH, hv, ht, m_ld, this, hp]
theorem E_putI {x ci k a t : Nat} {fs : List Int} {v : Int} (hg : m_get y pc = some (.putfield x, 3)) (hf : m_fl (m_own y) x = some (ci, k)) (ht : (m_tagL ci)[k]? = some t) (hst : m_st t (mI v) = some v) (hfin : ((m_C ci).2.1 k).2.2.2 = false) (hp : pc + 3 = pc') (hH : H[a]? = some (ci, fs)) (hk : k < fs.length) (h : Ev d y pc' ls st (m_set H a k v) r H1) : Ev d y pc ls (mI v :: mR a :: st) H r H1 :=
  E_next hg rfl (by simp) (by simp) (by simp [m_next, hf, hH, hk, hfin, ht, hst, hp]) h
theorem E_putR {x ci k a b : Nat} {fs : List Int} (hg : m_get y pc = some (.putfield x, 3)) (hf : m_fl (m_own y) x = some (ci, k)) (ht : (m_tagL ci)[k]? = some 2) (hb : m_in (b : Int) = true) (hfin : ((m_C ci).2.1 k).2.2.2 = false) (hp : pc + 3 = pc') (hH : H[a]? = some (ci, fs)) (hk : k < fs.length) (h : Ev d y pc' ls st (m_set H a k (b : Int)) r H1) : Ev d y pc ls (mR b :: mR a :: st) H r H1 :=
  E_next hg rfl (by simp) (by simp) (by simp [m_next, hf, hH, hk, hfin, ht, m_st, hb, hp]) h
/-- a list's value at an int -/
def ix (fs : List Int) (i : Int) : Int := fs.getD i.toNat 0
def up (fs : List Int) (i v : Int) : List Int := fs.set i.toNat v
theorem ix_get {fs : List Int} {i : Int} (h0 : 0 ≤ i) (h : i < fs.length) : fs[i.toNat]? = some (ix fs i) := by
  unfold ix
  rw [List.getD_eq_getElem?_getD, List.getElem?_eq_getElem (by omega)]
  rfl
theorem E_iaload {a : Nat} {fs : List Int} {i : Int} (hg : m_get y pc = some (.iaload, 1)) (hp : pc + 1 = pc') (hH : H[a]? = some (8, fs)) (h0 : 0 ≤ i) (hi : i < fs.length) (h : Ev d y pc' ls (mI (ix fs i) :: st) H r H1) : Ev d y pc ls (mI i :: mR a :: st) H r H1 :=
  E_next hg rfl (by simp) (by simp) (by simp only [m_next, m_aget, hH, h0, ix_get h0 hi, hp]; rfl) h
theorem E_baload {a : Nat} {fs : List Int} {i : Int} (hg : m_get y pc = some (.baload, 1)) (hp : pc + 1 = pc') (hH : H[a]? = some (9, fs)) (h0 : 0 ≤ i) (hi : i < fs.length) (h : Ev d y pc' ls (mI (ix fs i) :: st) H r H1) : Ev d y pc ls (mI i :: mR a :: st) H r H1 :=
  E_next hg rfl (by simp) (by simp) (by simp only [m_next, m_aget, hH, h0, ix_get h0 hi, hp]; rfl) h
theorem E_aaload {a b : Nat} {fs : List Int} {i : Int} (hg : m_get y pc = some (.aaload, 1)) (hp : pc + 1 = pc') (hH : H[a]? = some (10, fs)) (h0 : 0 ≤ i) (hv : fs[i.toNat]? = some (b : Int)) (h : Ev d y pc' ls (mR b :: st) H r H1) : Ev d y pc ls (mI i :: mR a :: st) H r H1 := by
  refine E_next (pc' := pc') (ls' := ls) (st' := mR b :: st) (H' := H) hg rfl (by simp) (by simp) ?_ h
  have : ¬ ((b : Int) < 0) := by omega
  simp [m_next, m_aget, hH, h0, hv, m_ld, this, hp]
/-- a cell's contents anew -/
def pt (H : mH) (a : Nat) (fs : List Int) : mH := H.modify a (fun c => (c.1, fs))
theorem pt_set {H : mH} {a kd k : Nat} {fs : List Int} {v : Int} (hH : H[a]? = some (kd, fs)) : m_set H a k v = pt H a (fs.set k v) := by
  apply List.ext_getElem?
  intro j
  simp only [m_set, pt, List.getElem?_modify]
  by_cases e : a = j
  · subst e; simp [hH]
  · simp [e]
theorem pt_self {H : mH} {a kd : Nat} {fs gs : List Int} (hH : H[a]? = some (kd, fs)) : (pt H a gs)[a]? = some (kd, gs) := by
  simp [pt, List.getElem?_modify, hH]
theorem pt_ne {H : mH} {a b : Nat} {gs : List Int} (h : a ≠ b) : (pt H a gs)[b]? = H[b]? := by
  simp [pt, List.getElem?_modify, h]
theorem pt_pt (H : mH) (a : Nat) (fs gs : List Int) : pt (pt H a fs) a gs = pt H a gs := by
  apply List.ext_getElem?
  intro j
  simp only [pt, List.getElem?_modify]
  by_cases e : a = j
  · subst e; cases H[a]? <;> simp
  · simp [e]
theorem pt_same {H : mH} {a kd : Nat} {fs : List Int} (hH : H[a]? = some (kd, fs)) : pt H a fs = H := by
  apply List.ext_getElem?
  intro j
  simp only [pt, List.getElem?_modify]
  by_cases e : a = j
  · subst e; simp [hH]
  · simp [e]
theorem pt_len (H : mH) (a : Nat) (fs : List Int) : (pt H a fs).length = H.length := by simp [pt]
theorem pt_sz {H : mH} {a kd : Nat} {fs gs : List Int} (hH : H[a]? = some (kd, fs)) (hl : gs.length = fs.length) : m_sz (pt H a gs) = m_sz H := m_modsz H a _ (fun c hc => by rw [hH] at hc; cases hc; exact hl)
theorem E_putf {x ci k a t : Nat} {fs : List Int} {v : Int} (hg : m_get y pc = some (.putfield x, 3)) (hf : m_fl (m_own y) x = some (ci, k)) (ht : (m_tagL ci)[k]? = some t) (hfin : ((m_C ci).2.1 k).2.2.2 = false) (hp : pc + 3 = pc') (hst : m_st t (mI v) = some v) (hH : H[a]? = some (ci, fs)) (hk : k < fs.length) (h : Ev d y pc' ls st (pt H a (fs.set k v)) r H1) : Ev d y pc ls (mI v :: mR a :: st) H r H1 :=
  E_putI hg hf ht hst hfin hp hH hk (by rw [pt_set hH]; exact h)
theorem E_putr {x ci k a b : Nat} {fs : List Int} (hg : m_get y pc = some (.putfield x, 3)) (hf : m_fl (m_own y) x = some (ci, k)) (ht : (m_tagL ci)[k]? = some 2) (hfin : ((m_C ci).2.1 k).2.2.2 = false) (hp : pc + 3 = pc') (hb : m_in (b : Int) = true) (hH : H[a]? = some (ci, fs)) (hk : k < fs.length) (h : Ev d y pc' ls st (pt H a (fs.set k (b : Int))) r H1) : Ev d y pc ls (mR b :: mR a :: st) H r H1 :=
  E_putR hg hf ht hb hfin hp hH hk (by rw [pt_set hH]; exact h)
theorem E_iastore {a : Nat} {fs : List Int} {i v : Int} (hg : m_get y pc = some (.iastore, 1)) (hp : pc + 1 = pc') (hH : H[a]? = some (8, fs)) (h0 : 0 ≤ i) (hi : i < fs.length) (h : Ev d y pc' ls st (pt H a (up fs i v)) r H1) : Ev d y pc ls (mI v :: mI i :: mR a :: st) H r H1 := by
  refine E_next (pc' := pc') (ls' := ls) (st' := st) (H' := m_set H a i.toNat v) hg rfl (by simp) (by simp) ?_ (by rw [pt_set hH]; exact h)
  have : i.toNat < fs.length := by omega
  simp [m_next, m_aput, hH, h0, this, m_st, hp]
theorem E_bastore {a : Nat} {fs : List Int} {i v : Int} (hg : m_get y pc = some (.bastore, 1)) (hp : pc + 1 = pc') (hv : v = 0 ∨ v = 1) (hH : H[a]? = some (9, fs)) (h0 : 0 ≤ i) (hi : i < fs.length) (h : Ev d y pc' ls st (pt H a (up fs i v)) r H1) : Ev d y pc ls (mI v :: mI i :: mR a :: st) H r H1 := by
  refine E_next (pc' := pc') (ls' := ls) (st' := st) (H' := m_set H a i.toNat v) hg rfl (by simp) (by simp) ?_ (by rw [pt_set hH]; exact h)
  have : i.toNat < fs.length := by omega
  simp [m_next, m_aput, hH, h0, this, m_st, hp, hv]
theorem E_alen {a kd : Nat} {fs : List Int} (hg : m_get y pc = some (.arraylength, 1)) (hp : pc + 1 = pc') (hH : H[a]? = some (kd, fs)) (hk : kd = 8 ∨ kd = 9 ∨ kd = 10) (hi : m_in (fs.length : Int) = true) (h : Ev d y pc' ls (mI (fs.length : Int) :: st) H r H1) : Ev d y pc ls (mR a :: st) H r H1 :=
  E_next hg rfl (by simp) (by simp) (by simp [m_next, hH, hk, hi, hp]) h
theorem E_ret (hg : m_get y pc = some (.return_, 1)) (hr : m_rt y = none) (e1 : r = none) (e2 : H1 = H) : Ev d y pc ls [] H r H1 := by
  subst e1; subst e2
  exact ⟨1, by simp [ev, hg, hr]⟩
theorem E_iret {v : Int} (hg : m_get y pc = some (.ireturn, 1)) (hr : m_rok y v = true) (e1 : r = mI v) (e2 : H1 = H) : Ev d y pc ls [mI v] H r H1 := by
  subst e1; subst e2
  exact ⟨1, by simp [ev, hg, hr]⟩
theorem E_call {i : Instr} {j x k z d' : Nat} {av : List mV} {r1 : mV} {H2 : mH} (hg : m_get y pc = some (i, 3)) (hi : m_inv i = some (j, x)) (hm : m_ml (m_own y) x = some (k, z)) (hfit : m_fit j k = true) (hk : ¬ 5 ≤ k) (hpz : m_prim z = false) (hn : m_na z = av.length) (hp : pc + 3 = pc') (h8 : st.length ≤ 8) (hd : d' ≤ d) (hrc : m_rcv k z av H = true) (hC : Call d' z av H r1 H2) (h : Ev (d + 1) y pc' ls (m_push r1 st) H2 r H1) : Ev (d + 1) y pc ls (av.reverse ++ st) H r H1 := by
  obtain ⟨N1, h1⟩ := hC
  obtain ⟨N2, h2⟩ := h
  refine ⟨max N1 N2 + 1, ?_⟩
  have h1' := ev_mono _ _ _ _ _ _ _ _ h1 (max N1 N2) d (by omega) hd
  have h2' := ev_mono _ _ _ _ _ _ _ _ h2 (max N1 N2) (d + 1) (by omega) (by omega)
  have e1 : (av.reverse ++ st).take (m_na z) = av.reverse := by rw [hn, ← List.length_reverse, List.take_left]
  have e2 : (av.reverse ++ st).drop (m_na z) = st := by rw [hn, ← List.length_reverse, List.drop_left]
  have e3 : m_na z ≤ (av.reverse ++ st).length := by simp; omega
  have n1 : i ≠ .return_ := by intro e; rw [e] at hi; cases hi
  have n2 : i ≠ .ireturn := by intro e; rw [e] at hi; cases hi
  simp only [ev, hg]
  · simp only [hi, hm, hfit, e1, e2, e3, List.reverse_reverse, hrc, hpz, h1', h8]
    rw [if_pos (by simp), if_neg hk, if_pos (by simp), if_neg (by simp)]
    subst hp
    exact h2'
theorem E_prim {i : Instr} {j x k z : Nat} {av : List mV} {r1 : mV} (hg : m_get y pc = some (i, 3)) (hi : m_inv i = some (j, x)) (hm : m_ml (m_own y) x = some (k, z)) (hfit : m_fit j k = true) (hk : ¬ 5 ≤ k) (hpz : m_prim z = true) (hn : m_na z = av.length) (hp : pc + 3 = pc') (h8 : st.length ≤ 8) (hrc : m_rcv k z av H = true) (hC : m_pv z av = some r1) (h : Ev (d + 1) y pc' ls (r1 :: st) H r H1) : Ev (d + 1) y pc ls (av.reverse ++ st) H r H1 := by
  obtain ⟨N2, h2⟩ := h
  refine ⟨N2 + 1, ?_⟩
  have e1 : (av.reverse ++ st).take (m_na z) = av.reverse := by rw [hn, ← List.length_reverse, List.take_left]
  have e2 : (av.reverse ++ st).drop (m_na z) = st := by rw [hn, ← List.length_reverse, List.drop_left]
  have e3 : m_na z ≤ (av.reverse ++ st).length := by simp; omega
  have n1 : i ≠ .return_ := by intro e; rw [e] at hi; cases hi
  have n2 : i ≠ .ireturn := by intro e; rw [e] at hi; cases hi
  simp only [ev, hg]
  · simp only [hi, hm, hfit, e1, e2, e3, List.reverse_reverse, hrc, hpz, hC, h8]
    rw [if_pos (by simp), if_neg hk, if_pos (by simp), if_pos (by simp)]
    subst hp
    exact h2
theorem E_blt {i : Instr} {j x k z : Nat} {st' : List mV} {H2 : mH} (hg : m_get y pc = some (i, 3)) (hi : m_inv i = some (j, x)) (hm : m_ml (m_own y) x = some (k, z)) (hfit : m_fit j k = true) (hk : 5 ≤ k) (hp : pc + 3 = pc') (hb : m_blt k st H = some (st', H2)) (h8 : st'.length ≤ 8) (h : Ev (d + 1) y pc' ls st' H2 r H1) : Ev (d + 1) y pc ls st H r H1 := by
  obtain ⟨N2, h2⟩ := h
  refine ⟨N2 + 1, ?_⟩
  have n1 : i ≠ .return_ := by intro e; rw [e] at hi; cases hi
  have n2 : i ≠ .ireturn := by intro e; rw [e] at hi; cases hi
  simp only [ev, hg]
  · simp only [hi, hm, hfit, hb, h8]
    rw [if_pos (by simp), if_pos hk, if_pos (by simp)]
    subst hp
    exact h2
end EV
end
section
/-! facts of the tables, one by one (printed by gen3.py) -/
theorem g0_0 : m_get 0 0 = some (.aload_n 0, 1) := by decide +kernel
theorem g0_1 : m_get 0 1 = some (.invokespecial 3, 3) := by decide +kernel
theorem g0_4 : m_get 0 4 = some (.aload_n 0, 1) := by decide +kernel
theorem g0_5 : m_get 0 5 = some (.iconst 3, 1) := by decide +kernel
theorem g0_6 : m_get 0 6 = some (.newarray .int, 2) := by decide +kernel
theorem g0_8 : m_get 0 8 = some (.putfield 9, 3) := by decide +kernel
theorem g0_11 : m_get 0 11 = some (.aload_n 0, 1) := by decide +kernel
theorem g0_12 : m_get 0 12 = some (.iconst 3, 1) := by decide +kernel
theorem g0_13 : m_get 0 13 = some (.newarray .int, 2) := by decide +kernel
theorem g0_15 : m_get 0 15 = some (.putfield 15, 3) := by decide +kernel
theorem g0_18 : m_get 0 18 = some (.aload_n 0, 1) := by decide +kernel
theorem g0_19 : m_get 0 19 = some (.sipush 625, 3) := by decide +kernel
theorem g0_22 : m_get 0 22 = some (.newarray .int, 2) := by decide +kernel
theorem g0_24 : m_get 0 24 = some (.putfield 18, 3) := by decide +kernel
theorem g0_27 : m_get 0 27 = some (.aload_n 0, 1) := by decide +kernel
theorem g0_28 : m_get 0 28 = some (.sipush 625, 3) := by decide +kernel
theorem g0_31 : m_get 0 31 = some (.newarray .int, 2) := by decide +kernel
theorem g0_33 : m_get 0 33 = some (.putfield 21, 3) := by decide +kernel
theorem g0_36 : m_get 0 36 = some (.aload_n 0, 1) := by decide +kernel
theorem g0_37 : m_get 0 37 = some (.sipush 1875, 3) := by decide +kernel
theorem g0_40 : m_get 0 40 = some (.newarray .int, 2) := by decide +kernel
theorem g0_42 : m_get 0 42 = some (.putfield 24, 3) := by decide +kernel
theorem g0_45 : m_get 0 45 = some (.return_, 1) := by decide +kernel
theorem f0_9 : m_fl (m_own 0) 9 = some (0, 0) := by decide +kernel
theorem f0_15 : m_fl (m_own 0) 15 = some (0, 1) := by decide +kernel
theorem f0_18 : m_fl (m_own 0) 18 = some (0, 2) := by decide +kernel
theorem f0_21 : m_fl (m_own 0) 21 = some (0, 3) := by decide +kernel
theorem f0_24 : m_fl (m_own 0) 24 = some (0, 4) := by decide +kernel
theorem k0_3 : m_ml (m_own 0) 3 = some (5, 0) := by decide +kernel
theorem g1_0 : m_get 1 0 = some (.iload_n 0, 1) := by decide +kernel
theorem g1_1 : m_get 1 1 = some (.bipush 25, 2) := by decide +kernel
theorem g1_3 : m_get 1 3 = some (.imul, 1) := by decide +kernel
theorem g1_4 : m_get 1 4 = some (.iload_n 1, 1) := by decide +kernel
theorem g1_5 : m_get 1 5 = some (.iadd, 1) := by decide +kernel
theorem g1_6 : m_get 1 6 = some (.ireturn, 1) := by decide +kernel
theorem g2_0 : m_get 2 0 = some (.aload_n 0, 1) := by decide +kernel
theorem g2_1 : m_get 2 1 = some (.getfield 9, 3) := by decide +kernel
theorem g2_4 : m_get 2 4 = some (.iconst 0, 1) := by decide +kernel
theorem g2_5 : m_get 2 5 = some (.aload_n 1, 1) := by decide +kernel
theorem g2_6 : m_get 2 6 = some (.getfield 27, 3) := by decide +kernel
theorem g2_9 : m_get 2 9 = some (.iastore, 1) := by decide +kernel
theorem g2_10 : m_get 2 10 = some (.aload_n 0, 1) := by decide +kernel
theorem g2_11 : m_get 2 11 = some (.getfield 15, 3) := by decide +kernel
theorem g2_14 : m_get 2 14 = some (.iconst 0, 1) := by decide +kernel
theorem g2_15 : m_get 2 15 = some (.aload_n 1, 1) := by decide +kernel
theorem g2_16 : m_get 2 16 = some (.getfield 27, 3) := by decide +kernel
theorem g2_19 : m_get 2 19 = some (.iastore, 1) := by decide +kernel
theorem g2_20 : m_get 2 20 = some (.aload_n 0, 1) := by decide +kernel
theorem g2_21 : m_get 2 21 = some (.getfield 9, 3) := by decide +kernel
theorem g2_24 : m_get 2 24 = some (.iconst 1, 1) := by decide +kernel
theorem g2_25 : m_get 2 25 = some (.aload_n 1, 1) := by decide +kernel
theorem g2_26 : m_get 2 26 = some (.getfield 33, 3) := by decide +kernel
theorem g2_29 : m_get 2 29 = some (.iastore, 1) := by decide +kernel
theorem g2_30 : m_get 2 30 = some (.aload_n 0, 1) := by decide +kernel
theorem g2_31 : m_get 2 31 = some (.getfield 15, 3) := by decide +kernel
theorem g2_34 : m_get 2 34 = some (.iconst 1, 1) := by decide +kernel
theorem g2_35 : m_get 2 35 = some (.aload_n 1, 1) := by decide +kernel
theorem g2_36 : m_get 2 36 = some (.getfield 36, 3) := by decide +kernel
theorem g2_39 : m_get 2 39 = some (.aload_n 1, 1) := by decide +kernel
theorem g2_40 : m_get 2 40 = some (.getfield 27, 3) := by decide +kernel
theorem g2_43 : m_get 2 43 = some (.imul, 1) := by decide +kernel
theorem g2_44 : m_get 2 44 = some (.iconst 2, 1) := by decide +kernel
theorem g2_45 : m_get 2 45 = some (.aload_n 1, 1) := by decide +kernel
theorem g2_46 : m_get 2 46 = some (.getfield 33, 3) := by decide +kernel
theorem g2_49 : m_get 2 49 = some (.imul, 1) := by decide +kernel
theorem g2_50 : m_get 2 50 = some (.iadd, 1) := by decide +kernel
theorem g2_51 : m_get 2 51 = some (.iastore, 1) := by decide +kernel
theorem g2_52 : m_get 2 52 = some (.aload_n 0, 1) := by decide +kernel
theorem g2_53 : m_get 2 53 = some (.getfield 9, 3) := by decide +kernel
theorem g2_56 : m_get 2 56 = some (.iconst 2, 1) := by decide +kernel
theorem g2_57 : m_get 2 57 = some (.aload_n 1, 1) := by decide +kernel
theorem g2_58 : m_get 2 58 = some (.getfield 33, 3) := by decide +kernel
theorem g2_61 : m_get 2 61 = some (.iastore, 1) := by decide +kernel
theorem g2_62 : m_get 2 62 = some (.aload_n 0, 1) := by decide +kernel
theorem g2_63 : m_get 2 63 = some (.getfield 15, 3) := by decide +kernel
theorem g2_66 : m_get 2 66 = some (.iconst 2, 1) := by decide +kernel
theorem g2_67 : m_get 2 67 = some (.aload_n 1, 1) := by decide +kernel
theorem g2_68 : m_get 2 68 = some (.getfield 39, 3) := by decide +kernel
theorem g2_71 : m_get 2 71 = some (.aload_n 1, 1) := by decide +kernel
theorem g2_72 : m_get 2 72 = some (.getfield 27, 3) := by decide +kernel
theorem g2_75 : m_get 2 75 = some (.imul, 1) := by decide +kernel
theorem g2_76 : m_get 2 76 = some (.iconst 2, 1) := by decide +kernel
theorem g2_77 : m_get 2 77 = some (.aload_n 1, 1) := by decide +kernel
theorem g2_78 : m_get 2 78 = some (.getfield 33, 3) := by decide +kernel
theorem g2_81 : m_get 2 81 = some (.imul, 1) := by decide +kernel
theorem g2_82 : m_get 2 82 = some (.iadd, 1) := by decide +kernel
theorem g2_83 : m_get 2 83 = some (.iastore, 1) := by decide +kernel
theorem g2_84 : m_get 2 84 = some (.aload_n 0, 1) := by decide +kernel
theorem g2_85 : m_get 2 85 = some (.iconst 0, 1) := by decide +kernel
theorem g2_86 : m_get 2 86 = some (.putfield 42, 3) := by decide +kernel
theorem g2_89 : m_get 2 89 = some (.return_, 1) := by decide +kernel
theorem f2_9 : m_fl (m_own 2) 9 = some (0, 0) := by decide +kernel
theorem f2_15 : m_fl (m_own 2) 15 = some (0, 1) := by decide +kernel
theorem f2_27 : m_fl (m_own 2) 27 = some (4, 5) := by decide +kernel
theorem f2_33 : m_fl (m_own 2) 33 = some (4, 6) := by decide +kernel
theorem f2_36 : m_fl (m_own 2) 36 = some (4, 1) := by decide +kernel
theorem f2_39 : m_fl (m_own 2) 39 = some (4, 2) := by decide +kernel
theorem f2_42 : m_fl (m_own 2) 42 = some (0, 5) := by decide +kernel
theorem g3_0 : m_get 3 0 = some (.aload_n 0, 1) := by decide +kernel
theorem g3_1 : m_get 3 1 = some (.getfield 42, 3) := by decide +kernel
theorem g3_4 : m_get 3 4 = some (.ifCond .eq 4, 3) := by decide +kernel
theorem g3_7 : m_get 3 7 = some (.return_, 1) := by decide +kernel
theorem g3_8 : m_get 3 8 = some (.iconst 1, 1) := by decide +kernel
theorem g3_9 : m_get 3 9 = some (.istore_n 1, 1) := by decide +kernel
theorem g3_10 : m_get 3 10 = some (.iload_n 1, 1) := by decide +kernel
theorem g3_11 : m_get 3 11 = some (.bipush 24, 2) := by decide +kernel
theorem g3_13 : m_get 3 13 = some (.if_icmp .gt 29, 3) := by decide +kernel
theorem g3_16 : m_get 3 16 = some (.iconst 1, 1) := by decide +kernel
theorem g3_17 : m_get 3 17 = some (.istore_n 2, 1) := by decide +kernel
theorem g3_18 : m_get 3 18 = some (.iload_n 2, 1) := by decide +kernel
theorem g3_19 : m_get 3 19 = some (.bipush 24, 2) := by decide +kernel
theorem g3_21 : m_get 3 21 = some (.if_icmp .gt 15, 3) := by decide +kernel
theorem g3_24 : m_get 3 24 = some (.aload_n 0, 1) := by decide +kernel
theorem g3_25 : m_get 3 25 = some (.iload_n 1, 1) := by decide +kernel
theorem g3_26 : m_get 3 26 = some (.iload_n 2, 1) := by decide +kernel
theorem g3_27 : m_get 3 27 = some (.invokevirtual 46, 3) := by decide +kernel
theorem g3_30 : m_get 3 30 = some (.iinc 2 1, 3) := by decide +kernel
theorem g3_33 : m_get 3 33 = some (.goto (-15), 3) := by decide +kernel
theorem g3_36 : m_get 3 36 = some (.iinc 1 1, 3) := by decide +kernel
theorem g3_39 : m_get 3 39 = some (.goto (-29), 3) := by decide +kernel
theorem g3_42 : m_get 3 42 = some (.aload_n 0, 1) := by decide +kernel
theorem g3_43 : m_get 3 43 = some (.iconst 1, 1) := by decide +kernel
theorem g3_44 : m_get 3 44 = some (.putfield 42, 3) := by decide +kernel
theorem g3_47 : m_get 3 47 = some (.return_, 1) := by decide +kernel
theorem f3_42 : m_fl (m_own 3) 42 = some (0, 5) := by decide +kernel
theorem k3_46 : m_ml (m_own 3) 46 = some (0, 4) := by decide +kernel
theorem g4_0 : m_get 4 0 = some (.iload_n 1, 1) := by decide +kernel
theorem g4_1 : m_get 4 1 = some (.iload_n 2, 1) := by decide +kernel
theorem g4_2 : m_get 4 2 = some (.invokestatic 50, 3) := by decide +kernel
theorem g4_5 : m_get 4 5 = some (.istore_n 3, 1) := by decide +kernel
theorem g4_6 : m_get 4 6 = some (.iconst 0, 1) := by decide +kernel
theorem g4_7 : m_get 4 7 = some (.istore 4, 2) := by decide +kernel
theorem g4_9 : m_get 4 9 = some (.iload 4, 2) := by decide +kernel
theorem g4_11 : m_get 4 11 = some (.iconst 3, 1) := by decide +kernel
theorem g4_12 : m_get 4 12 = some (.if_icmp .ge 23, 3) := by decide +kernel
theorem g4_15 : m_get 4 15 = some (.aload_n 0, 1) := by decide +kernel
theorem g4_16 : m_get 4 16 = some (.getfield 24, 3) := by decide +kernel
theorem g4_19 : m_get 4 19 = some (.iload 4, 2) := by decide +kernel
theorem g4_21 : m_get 4 21 = some (.sipush 625, 3) := by decide +kernel
theorem g4_24 : m_get 4 24 = some (.imul, 1) := by decide +kernel
theorem g4_25 : m_get 4 25 = some (.iload_n 3, 1) := by decide +kernel
theorem g4_26 : m_get 4 26 = some (.iadd, 1) := by decide +kernel
theorem g4_27 : m_get 4 27 = some (.iconst 0, 1) := by decide +kernel
theorem g4_28 : m_get 4 28 = some (.iastore, 1) := by decide +kernel
theorem g4_29 : m_get 4 29 = some (.iinc 4 1, 3) := by decide +kernel
theorem g4_32 : m_get 4 32 = some (.goto (-23), 3) := by decide +kernel
theorem g4_35 : m_get 4 35 = some (.aload_n 0, 1) := by decide +kernel
theorem g4_36 : m_get 4 36 = some (.iload_n 1, 1) := by decide +kernel
theorem g4_37 : m_get 4 37 = some (.iload_n 2, 1) := by decide +kernel
theorem g4_38 : m_get 4 38 = some (.invokevirtual 54, 3) := by decide +kernel
theorem g4_41 : m_get 4 41 = some (.istore 4, 2) := by decide +kernel
theorem g4_43 : m_get 4 43 = some (.iload 4, 2) := by decide +kernel
theorem g4_45 : m_get 4 45 = some (.ifCond .lt 37, 3) := by decide +kernel
theorem g4_48 : m_get 4 48 = some (.aload_n 0, 1) := by decide +kernel
theorem g4_49 : m_get 4 49 = some (.getfield 18, 3) := by decide +kernel
theorem g4_52 : m_get 4 52 = some (.iload_n 3, 1) := by decide +kernel
theorem g4_53 : m_get 4 53 = some (.iload_n 1, 1) := by decide +kernel
theorem g4_54 : m_get 4 54 = some (.iload_n 2, 1) := by decide +kernel
theorem g4_55 : m_get 4 55 = some (.imul, 1) := by decide +kernel
theorem g4_56 : m_get 4 56 = some (.iastore, 1) := by decide +kernel
theorem g4_57 : m_get 4 57 = some (.aload_n 0, 1) := by decide +kernel
theorem g4_58 : m_get 4 58 = some (.getfield 21, 3) := by decide +kernel
theorem g4_61 : m_get 4 61 = some (.iload_n 3, 1) := by decide +kernel
theorem g4_62 : m_get 4 62 = some (.iconst 1, 1) := by decide +kernel
theorem g4_63 : m_get 4 63 = some (.iload 4, 2) := by decide +kernel
theorem g4_65 : m_get 4 65 = some (.iadd, 1) := by decide +kernel
theorem g4_66 : m_get 4 66 = some (.iastore, 1) := by decide +kernel
theorem g4_67 : m_get 4 67 = some (.aload_n 0, 1) := by decide +kernel
theorem g4_68 : m_get 4 68 = some (.getfield 24, 3) := by decide +kernel
theorem g4_71 : m_get 4 71 = some (.iload 4, 2) := by decide +kernel
theorem g4_73 : m_get 4 73 = some (.sipush 625, 3) := by decide +kernel
theorem g4_76 : m_get 4 76 = some (.imul, 1) := by decide +kernel
theorem g4_77 : m_get 4 77 = some (.iload_n 3, 1) := by decide +kernel
theorem g4_78 : m_get 4 78 = some (.iadd, 1) := by decide +kernel
theorem g4_79 : m_get 4 79 = some (.iconst 1, 1) := by decide +kernel
theorem g4_80 : m_get 4 80 = some (.iastore, 1) := by decide +kernel
theorem g4_81 : m_get 4 81 = some (.return_, 1) := by decide +kernel
theorem g4_82 : m_get 4 82 = some (.aload_n 0, 1) := by decide +kernel
theorem g4_83 : m_get 4 83 = some (.getfield 18, 3) := by decide +kernel
theorem g4_86 : m_get 4 86 = some (.iload_n 3, 1) := by decide +kernel
theorem g4_87 : m_get 4 87 = some (.iconst 0, 1) := by decide +kernel
theorem g4_88 : m_get 4 88 = some (.iastore, 1) := by decide +kernel
theorem g4_89 : m_get 4 89 = some (.aload_n 0, 1) := by decide +kernel
theorem g4_90 : m_get 4 90 = some (.getfield 21, 3) := by decide +kernel
theorem g4_93 : m_get 4 93 = some (.iload_n 3, 1) := by decide +kernel
theorem g4_94 : m_get 4 94 = some (.iconst 0, 1) := by decide +kernel
theorem g4_95 : m_get 4 95 = some (.iastore, 1) := by decide +kernel
theorem g4_96 : m_get 4 96 = some (.iconst 1, 1) := by decide +kernel
theorem g4_97 : m_get 4 97 = some (.istore 5, 2) := by decide +kernel
theorem g4_99 : m_get 4 99 = some (.iload 5, 2) := by decide +kernel
theorem g4_101 : m_get 4 101 = some (.iload_n 1, 1) := by decide +kernel
theorem g4_102 : m_get 4 102 = some (.iconst 2, 1) := by decide +kernel
theorem g4_103 : m_get 4 103 = some (.idiv, 1) := by decide +kernel
theorem g4_104 : m_get 4 104 = some (.if_icmp .gt 33, 3) := by decide +kernel
theorem g4_107 : m_get 4 107 = some (.aload_n 0, 1) := by decide +kernel
theorem g4_108 : m_get 4 108 = some (.iload_n 3, 1) := by decide +kernel
theorem g4_109 : m_get 4 109 = some (.bipush 100, 2) := by decide +kernel
theorem g4_111 : m_get 4 111 = some (.iload 5, 2) := by decide +kernel
theorem g4_113 : m_get 4 113 = some (.iadd, 1) := by decide +kernel
theorem g4_114 : m_get 4 114 = some (.iload 5, 2) := by decide +kernel
theorem g4_116 : m_get 4 116 = some (.iload_n 2, 1) := by decide +kernel
theorem g4_117 : m_get 4 117 = some (.invokestatic 50, 3) := by decide +kernel
theorem g4_120 : m_get 4 120 = some (.iload_n 1, 1) := by decide +kernel
theorem g4_121 : m_get 4 121 = some (.iload 5, 2) := by decide +kernel
theorem g4_123 : m_get 4 123 = some (.isub, 1) := by decide +kernel
theorem g4_124 : m_get 4 124 = some (.iload_n 2, 1) := by decide +kernel
theorem g4_125 : m_get 4 125 = some (.invokestatic 50, 3) := by decide +kernel
theorem g4_128 : m_get 4 128 = some (.invokevirtual 57, 3) := by decide +kernel
theorem g4_131 : m_get 4 131 = some (.iinc 5 1, 3) := by decide +kernel
theorem g4_134 : m_get 4 134 = some (.goto (-35), 3) := by decide +kernel
theorem g4_137 : m_get 4 137 = some (.iconst 1, 1) := by decide +kernel
theorem g4_138 : m_get 4 138 = some (.istore 5, 2) := by decide +kernel
theorem g4_140 : m_get 4 140 = some (.iload 5, 2) := by decide +kernel
theorem g4_142 : m_get 4 142 = some (.iload_n 2, 1) := by decide +kernel
theorem g4_143 : m_get 4 143 = some (.iconst 2, 1) := by decide +kernel
theorem g4_144 : m_get 4 144 = some (.idiv, 1) := by decide +kernel
theorem g4_145 : m_get 4 145 = some (.if_icmp .gt 34, 3) := by decide +kernel
theorem g4_148 : m_get 4 148 = some (.aload_n 0, 1) := by decide +kernel
theorem g4_149 : m_get 4 149 = some (.iload_n 3, 1) := by decide +kernel
theorem g4_150 : m_get 4 150 = some (.sipush 200, 3) := by decide +kernel
theorem g4_153 : m_get 4 153 = some (.iload 5, 2) := by decide +kernel
theorem g4_155 : m_get 4 155 = some (.iadd, 1) := by decide +kernel
theorem g4_156 : m_get 4 156 = some (.iload_n 1, 1) := by decide +kernel
theorem g4_157 : m_get 4 157 = some (.iload 5, 2) := by decide +kernel
theorem g4_159 : m_get 4 159 = some (.invokestatic 50, 3) := by decide +kernel
theorem g4_162 : m_get 4 162 = some (.iload_n 1, 1) := by decide +kernel
theorem g4_163 : m_get 4 163 = some (.iload_n 2, 1) := by decide +kernel
theorem g4_164 : m_get 4 164 = some (.iload 5, 2) := by decide +kernel
theorem g4_166 : m_get 4 166 = some (.isub, 1) := by decide +kernel
theorem g4_167 : m_get 4 167 = some (.invokestatic 50, 3) := by decide +kernel
theorem g4_170 : m_get 4 170 = some (.invokevirtual 57, 3) := by decide +kernel
theorem g4_173 : m_get 4 173 = some (.iinc 5 1, 3) := by decide +kernel
theorem g4_176 : m_get 4 176 = some (.goto (-36), 3) := by decide +kernel
theorem g4_179 : m_get 4 179 = some (.return_, 1) := by decide +kernel
theorem f4_18 : m_fl (m_own 4) 18 = some (0, 2) := by decide +kernel
theorem f4_21 : m_fl (m_own 4) 21 = some (0, 3) := by decide +kernel
theorem f4_24 : m_fl (m_own 4) 24 = some (0, 4) := by decide +kernel
theorem k4_50 : m_ml (m_own 4) 50 = some (1, 1) := by decide +kernel
theorem k4_54 : m_ml (m_own 4) 54 = some (0, 6) := by decide +kernel
theorem k4_57 : m_ml (m_own 4) 57 = some (0, 5) := by decide +kernel
theorem g5_0 : m_get 5 0 = some (.aload_n 0, 1) := by decide +kernel
theorem g5_1 : m_get 5 1 = some (.getfield 18, 3) := by decide +kernel
theorem g5_4 : m_get 5 4 = some (.iload_n 3, 1) := by decide +kernel
theorem g5_5 : m_get 5 5 = some (.iaload, 1) := by decide +kernel
theorem g5_6 : m_get 5 6 = some (.aload_n 0, 1) := by decide +kernel
theorem g5_7 : m_get 5 7 = some (.getfield 18, 3) := by decide +kernel
theorem g5_10 : m_get 5 10 = some (.iload 4, 2) := by decide +kernel
theorem g5_12 : m_get 5 12 = some (.iaload, 1) := by decide +kernel
theorem g5_13 : m_get 5 13 = some (.iadd, 1) := by decide +kernel
theorem g5_14 : m_get 5 14 = some (.istore 5, 2) := by decide +kernel
theorem g5_16 : m_get 5 16 = some (.iload 5, 2) := by decide +kernel
theorem g5_18 : m_get 5 18 = some (.aload_n 0, 1) := by decide +kernel
theorem g5_19 : m_get 5 19 = some (.getfield 18, 3) := by decide +kernel
theorem g5_22 : m_get 5 22 = some (.iload_n 1, 1) := by decide +kernel
theorem g5_23 : m_get 5 23 = some (.iaload, 1) := by decide +kernel
theorem g5_24 : m_get 5 24 = some (.if_icmp .gt 4, 3) := by decide +kernel
theorem g5_27 : m_get 5 27 = some (.return_, 1) := by decide +kernel
theorem g5_28 : m_get 5 28 = some (.aload_n 0, 1) := by decide +kernel
theorem g5_29 : m_get 5 29 = some (.getfield 18, 3) := by decide +kernel
theorem g5_32 : m_get 5 32 = some (.iload_n 1, 1) := by decide +kernel
theorem g5_33 : m_get 5 33 = some (.iload 5, 2) := by decide +kernel
theorem g5_35 : m_get 5 35 = some (.iastore, 1) := by decide +kernel
theorem g5_36 : m_get 5 36 = some (.aload_n 0, 1) := by decide +kernel
theorem g5_37 : m_get 5 37 = some (.getfield 21, 3) := by decide +kernel
theorem g5_40 : m_get 5 40 = some (.iload_n 1, 1) := by decide +kernel
theorem g5_41 : m_get 5 41 = some (.iload_n 2, 1) := by decide +kernel
theorem g5_42 : m_get 5 42 = some (.iastore, 1) := by decide +kernel
theorem g5_43 : m_get 5 43 = some (.iconst 0, 1) := by decide +kernel
theorem g5_44 : m_get 5 44 = some (.istore 6, 2) := by decide +kernel
theorem g5_46 : m_get 5 46 = some (.iload 6, 2) := by decide +kernel
theorem g5_48 : m_get 5 48 = some (.iconst 3, 1) := by decide +kernel
theorem g5_49 : m_get 5 49 = some (.if_icmp .ge 46, 3) := by decide +kernel
theorem g5_52 : m_get 5 52 = some (.iload 6, 2) := by decide +kernel
theorem g5_54 : m_get 5 54 = some (.sipush 625, 3) := by decide +kernel
theorem g5_57 : m_get 5 57 = some (.imul, 1) := by decide +kernel
theorem g5_58 : m_get 5 58 = some (.istore 7, 2) := by decide +kernel
theorem g5_60 : m_get 5 60 = some (.aload_n 0, 1) := by decide +kernel
theorem g5_61 : m_get 5 61 = some (.getfield 24, 3) := by decide +kernel
theorem g5_64 : m_get 5 64 = some (.iload 7, 2) := by decide +kernel
theorem g5_66 : m_get 5 66 = some (.iload_n 1, 1) := by decide +kernel
theorem g5_67 : m_get 5 67 = some (.iadd, 1) := by decide +kernel
theorem g5_68 : m_get 5 68 = some (.aload_n 0, 1) := by decide +kernel
theorem g5_69 : m_get 5 69 = some (.getfield 24, 3) := by decide +kernel
theorem g5_72 : m_get 5 72 = some (.iload 7, 2) := by decide +kernel
theorem g5_74 : m_get 5 74 = some (.iload_n 3, 1) := by decide +kernel
theorem g5_75 : m_get 5 75 = some (.iadd, 1) := by decide +kernel
theorem g5_76 : m_get 5 76 = some (.iaload, 1) := by decide +kernel
theorem g5_77 : m_get 5 77 = some (.aload_n 0, 1) := by decide +kernel
theorem g5_78 : m_get 5 78 = some (.getfield 24, 3) := by decide +kernel
theorem g5_81 : m_get 5 81 = some (.iload 7, 2) := by decide +kernel
theorem g5_83 : m_get 5 83 = some (.iload 4, 2) := by decide +kernel
theorem g5_85 : m_get 5 85 = some (.iadd, 1) := by decide +kernel
theorem g5_86 : m_get 5 86 = some (.iaload, 1) := by decide +kernel
theorem g5_87 : m_get 5 87 = some (.iadd, 1) := by decide +kernel
theorem g5_88 : m_get 5 88 = some (.iastore, 1) := by decide +kernel
theorem g5_89 : m_get 5 89 = some (.iinc 6 1, 3) := by decide +kernel
theorem g5_92 : m_get 5 92 = some (.goto (-46), 3) := by decide +kernel
theorem g5_95 : m_get 5 95 = some (.return_, 1) := by decide +kernel
theorem f5_18 : m_fl (m_own 5) 18 = some (0, 2) := by decide +kernel
theorem f5_21 : m_fl (m_own 5) 21 = some (0, 3) := by decide +kernel
theorem f5_24 : m_fl (m_own 5) 24 = some (0, 4) := by decide +kernel
theorem g6_0 : m_get 6 0 = some (.iload_n 1, 1) := by decide +kernel
theorem g6_1 : m_get 6 1 = some (.iload_n 2, 1) := by decide +kernel
theorem g6_2 : m_get 6 2 = some (.invokestatic 61, 3) := by decide +kernel
theorem g6_5 : m_get 6 5 = some (.istore_n 3, 1) := by decide +kernel
theorem g6_6 : m_get 6 6 = some (.iload_n 1, 1) := by decide +kernel
theorem g6_7 : m_get 6 7 = some (.iload_n 2, 1) := by decide +kernel
theorem g6_8 : m_get 6 8 = some (.invokestatic 66, 3) := by decide +kernel
theorem g6_11 : m_get 6 11 = some (.istore 4, 2) := by decide +kernel
theorem g6_13 : m_get 6 13 = some (.iconst 0, 1) := by decide +kernel
theorem g6_14 : m_get 6 14 = some (.istore 5, 2) := by decide +kernel
theorem g6_16 : m_get 6 16 = some (.iload 5, 2) := by decide +kernel
theorem g6_18 : m_get 6 18 = some (.iconst 3, 1) := by decide +kernel
theorem g6_19 : m_get 6 19 = some (.if_icmp .ge 35, 3) := by decide +kernel
theorem g6_22 : m_get 6 22 = some (.aload_n 0, 1) := by decide +kernel
theorem g6_23 : m_get 6 23 = some (.getfield 9, 3) := by decide +kernel
theorem g6_26 : m_get 6 26 = some (.iload 5, 2) := by decide +kernel
theorem g6_28 : m_get 6 28 = some (.iaload, 1) := by decide +kernel
theorem g6_29 : m_get 6 29 = some (.iload_n 3, 1) := by decide +kernel
theorem g6_30 : m_get 6 30 = some (.if_icmp .ne 18, 3) := by decide +kernel
theorem g6_33 : m_get 6 33 = some (.aload_n 0, 1) := by decide +kernel
theorem g6_34 : m_get 6 34 = some (.getfield 15, 3) := by decide +kernel
theorem g6_37 : m_get 6 37 = some (.iload 5, 2) := by decide +kernel
theorem g6_39 : m_get 6 39 = some (.iaload, 1) := by decide +kernel
theorem g6_40 : m_get 6 40 = some (.iload 4, 2) := by decide +kernel
theorem g6_42 : m_get 6 42 = some (.if_icmp .ne 6, 3) := by decide +kernel
theorem g6_45 : m_get 6 45 = some (.iload 5, 2) := by decide +kernel
theorem g6_47 : m_get 6 47 = some (.ireturn, 1) := by decide +kernel
theorem g6_48 : m_get 6 48 = some (.iinc 5 1, 3) := by decide +kernel
theorem g6_51 : m_get 6 51 = some (.goto (-35), 3) := by decide +kernel
theorem g6_54 : m_get 6 54 = some (.bipush (-9), 2) := by decide +kernel
theorem g6_56 : m_get 6 56 = some (.ireturn, 1) := by decide +kernel
theorem f6_9 : m_fl (m_own 6) 9 = some (0, 0) := by decide +kernel
theorem f6_15 : m_fl (m_own 6) 15 = some (0, 1) := by decide +kernel
theorem k6_61 : m_ml (m_own 6) 61 = some (8, 0) := by decide +kernel
theorem k6_66 : m_ml (m_own 6) 66 = some (7, 0) := by decide +kernel
theorem g7_0 : m_get 7 0 = some (.aload_n 0, 1) := by decide +kernel
theorem g7_1 : m_get 7 1 = some (.invokespecial 3, 3) := by decide +kernel
theorem g7_4 : m_get 7 4 = some (.aload_n 0, 1) := by decide +kernel
theorem g7_5 : m_get 7 5 = some (.bipush 6, 2) := by decide +kernel
theorem g7_7 : m_get 7 7 = some (.newarray .int, 2) := by decide +kernel
theorem g7_9 : m_get 7 9 = some (.putfield 9, 3) := by decide +kernel
theorem g7_12 : m_get 7 12 = some (.aload_n 0, 1) := by decide +kernel
theorem g7_13 : m_get 7 13 = some (.bipush 6, 2) := by decide +kernel
theorem g7_15 : m_get 7 15 = some (.newarray .int, 2) := by decide +kernel
theorem g7_17 : m_get 7 17 = some (.putfield 15, 3) := by decide +kernel
theorem g7_20 : m_get 7 20 = some (.aload_n 0, 1) := by decide +kernel
theorem g7_21 : m_get 7 21 = some (.bipush 6, 2) := by decide +kernel
theorem g7_23 : m_get 7 23 = some (.newarray .boolean, 2) := by decide +kernel
theorem g7_25 : m_get 7 25 = some (.putfield 18, 3) := by decide +kernel
theorem g7_28 : m_get 7 28 = some (.aload_n 0, 1) := by decide +kernel
theorem g7_29 : m_get 7 29 = some (.bipush 6, 2) := by decide +kernel
theorem g7_31 : m_get 7 31 = some (.newarray .int, 2) := by decide +kernel
theorem g7_33 : m_get 7 33 = some (.putfield 22, 3) := by decide +kernel
theorem g7_36 : m_get 7 36 = some (.aload_n 0, 1) := by decide +kernel
theorem g7_37 : m_get 7 37 = some (.bipush 6, 2) := by decide +kernel
theorem g7_39 : m_get 7 39 = some (.newarray .int, 2) := by decide +kernel
theorem g7_41 : m_get 7 41 = some (.putfield 25, 3) := by decide +kernel
theorem g7_44 : m_get 7 44 = some (.aload_n 0, 1) := by decide +kernel
theorem g7_45 : m_get 7 45 = some (.bipush 6, 2) := by decide +kernel
theorem g7_47 : m_get 7 47 = some (.newarray .int, 2) := by decide +kernel
theorem g7_49 : m_get 7 49 = some (.putfield 28, 3) := by decide +kernel
theorem g7_52 : m_get 7 52 = some (.return_, 1) := by decide +kernel
theorem f7_9 : m_fl (m_own 7) 9 = some (1, 0) := by decide +kernel
theorem f7_15 : m_fl (m_own 7) 15 = some (1, 1) := by decide +kernel
theorem f7_18 : m_fl (m_own 7) 18 = some (1, 2) := by decide +kernel
theorem f7_22 : m_fl (m_own 7) 22 = some (1, 3) := by decide +kernel
theorem f7_25 : m_fl (m_own 7) 25 = some (1, 4) := by decide +kernel
theorem f7_28 : m_fl (m_own 7) 28 = some (1, 5) := by decide +kernel
theorem k7_3 : m_ml (m_own 7) 3 = some (5, 0) := by decide +kernel
theorem g8_0 : m_get 8 0 = some (.aload_n 0, 1) := by decide +kernel
theorem g8_1 : m_get 8 1 = some (.aload_n 1, 1) := by decide +kernel
theorem g8_2 : m_get 8 2 = some (.invokevirtual 31, 3) := by decide +kernel
theorem g8_5 : m_get 8 5 = some (.putfield 37, 3) := by decide +kernel
theorem g8_8 : m_get 8 8 = some (.iconst 0, 1) := by decide +kernel
theorem g8_9 : m_get 8 9 = some (.istore 5, 2) := by decide +kernel
theorem g8_11 : m_get 8 11 = some (.iconst 0, 1) := by decide +kernel
theorem g8_12 : m_get 8 12 = some (.istore 6, 2) := by decide +kernel
theorem g8_14 : m_get 8 14 = some (.iload 6, 2) := by decide +kernel
theorem g8_16 : m_get 8 16 = some (.bipush 6, 2) := by decide +kernel
theorem g8_18 : m_get 8 18 = some (.if_icmp .ge 95, 3) := by decide +kernel
theorem g8_21 : m_get 8 21 = some (.aload_n 0, 1) := by decide +kernel
theorem g8_22 : m_get 8 22 = some (.getfield 15, 3) := by decide +kernel
theorem g8_25 : m_get 8 25 = some (.iload 6, 2) := by decide +kernel
theorem g8_27 : m_get 8 27 = some (.aload_n 2, 1) := by decide +kernel
theorem g8_28 : m_get 8 28 = some (.getfield 40, 3) := by decide +kernel
theorem g8_31 : m_get 8 31 = some (.iload 6, 2) := by decide +kernel
theorem g8_33 : m_get 8 33 = some (.iaload, 1) := by decide +kernel
theorem g8_34 : m_get 8 34 = some (.iastore, 1) := by decide +kernel
theorem g8_35 : m_get 8 35 = some (.aload_n 0, 1) := by decide +kernel
theorem g8_36 : m_get 8 36 = some (.getfield 18, 3) := by decide +kernel
theorem g8_39 : m_get 8 39 = some (.iload 6, 2) := by decide +kernel
theorem g8_41 : m_get 8 41 = some (.iload 6, 2) := by decide +kernel
theorem g8_43 : m_get 8 43 = some (.aload_n 0, 1) := by decide +kernel
theorem g8_44 : m_get 8 44 = some (.getfield 37, 3) := by decide +kernel
theorem g8_47 : m_get 8 47 = some (.if_icmp .ge 16, 3) := by decide +kernel
theorem g8_50 : m_get 8 50 = some (.aload_n 2, 1) := by decide +kernel
theorem g8_51 : m_get 8 51 = some (.iload 6, 2) := by decide +kernel
theorem g8_53 : m_get 8 53 = some (.invokevirtual 45, 3) := by decide +kernel
theorem g8_56 : m_get 8 56 = some (.ifCond .eq 7, 3) := by decide +kernel
theorem g8_59 : m_get 8 59 = some (.iconst 1, 1) := by decide +kernel
theorem g8_60 : m_get 8 60 = some (.goto 4, 3) := by decide +kernel
theorem g8_63 : m_get 8 63 = some (.iconst 0, 1) := by decide +kernel
theorem g8_64 : m_get 8 64 = some (.bastore, 1) := by decide +kernel
theorem g8_65 : m_get 8 65 = some (.aload_n 0, 1) := by decide +kernel
theorem g8_66 : m_get 8 66 = some (.getfield 22, 3) := by decide +kernel
theorem g8_69 : m_get 8 69 = some (.iload 6, 2) := by decide +kernel
theorem g8_71 : m_get 8 71 = some (.iload 6, 2) := by decide +kernel
theorem g8_73 : m_get 8 73 = some (.aload_n 3, 1) := by decide +kernel
theorem g8_74 : m_get 8 74 = some (.arraylength, 1) := by decide +kernel
theorem g8_75 : m_get 8 75 = some (.if_icmp .ge 10, 3) := by decide +kernel
theorem g8_78 : m_get 8 78 = some (.aload_n 3, 1) := by decide +kernel
theorem g8_79 : m_get 8 79 = some (.iload 6, 2) := by decide +kernel
theorem g8_81 : m_get 8 81 = some (.iaload, 1) := by decide +kernel
theorem g8_82 : m_get 8 82 = some (.goto 4, 3) := by decide +kernel
theorem g8_85 : m_get 8 85 = some (.iconst 0, 1) := by decide +kernel
theorem g8_86 : m_get 8 86 = some (.iastore, 1) := by decide +kernel
theorem g8_87 : m_get 8 87 = some (.iload 5, 2) := by decide +kernel
theorem g8_89 : m_get 8 89 = some (.aload_n 0, 1) := by decide +kernel
theorem g8_90 : m_get 8 90 = some (.getfield 18, 3) := by decide +kernel
theorem g8_93 : m_get 8 93 = some (.iload 6, 2) := by decide +kernel
theorem g8_95 : m_get 8 95 = some (.baload, 1) := by decide +kernel
theorem g8_96 : m_get 8 96 = some (.ifCond .eq 7, 3) := by decide +kernel
theorem g8_99 : m_get 8 99 = some (.iconst 1, 1) := by decide +kernel
theorem g8_100 : m_get 8 100 = some (.goto 4, 3) := by decide +kernel
theorem g8_103 : m_get 8 103 = some (.iconst 0, 1) := by decide +kernel
theorem g8_104 : m_get 8 104 = some (.iadd, 1) := by decide +kernel
theorem g8_105 : m_get 8 105 = some (.istore 5, 2) := by decide +kernel
theorem g8_107 : m_get 8 107 = some (.iinc 6 1, 3) := by decide +kernel
theorem g8_110 : m_get 8 110 = some (.goto (-96), 3) := by decide +kernel
theorem g8_113 : m_get 8 113 = some (.iconst 0, 1) := by decide +kernel
theorem g8_114 : m_get 8 114 = some (.istore 6, 2) := by decide +kernel
theorem g8_116 : m_get 8 116 = some (.iload 6, 2) := by decide +kernel
theorem g8_118 : m_get 8 118 = some (.bipush 6, 2) := by decide +kernel
theorem g8_120 : m_get 8 120 = some (.if_icmp .ge 35, 3) := by decide +kernel
theorem g8_123 : m_get 8 123 = some (.aload_n 0, 1) := by decide +kernel
theorem g8_124 : m_get 8 124 = some (.getfield 25, 3) := by decide +kernel
theorem g8_127 : m_get 8 127 = some (.iload 6, 2) := by decide +kernel
theorem g8_129 : m_get 8 129 = some (.iload 6, 2) := by decide +kernel
theorem g8_131 : m_get 8 131 = some (.aload_n 1, 1) := by decide +kernel
theorem g8_132 : m_get 8 132 = some (.getfield 49, 3) := by decide +kernel
theorem g8_135 : m_get 8 135 = some (.if_icmp .ge 12, 3) := by decide +kernel
theorem g8_138 : m_get 8 138 = some (.aload_n 2, 1) := by decide +kernel
theorem g8_139 : m_get 8 139 = some (.iload 6, 2) := by decide +kernel
theorem g8_141 : m_get 8 141 = some (.invokevirtual 52, 3) := by decide +kernel
theorem g8_144 : m_get 8 144 = some (.goto 4, 3) := by decide +kernel
theorem g8_147 : m_get 8 147 = some (.iconst 0, 1) := by decide +kernel
theorem g8_148 : m_get 8 148 = some (.iastore, 1) := by decide +kernel
theorem g8_149 : m_get 8 149 = some (.iinc 6 1, 3) := by decide +kernel
theorem g8_152 : m_get 8 152 = some (.goto (-36), 3) := by decide +kernel
theorem g8_155 : m_get 8 155 = some (.iconst 0, 1) := by decide +kernel
theorem g8_156 : m_get 8 156 = some (.istore 6, 2) := by decide +kernel
theorem g8_158 : m_get 8 158 = some (.iload 6, 2) := by decide +kernel
theorem g8_160 : m_get 8 160 = some (.bipush 6, 2) := by decide +kernel
theorem g8_162 : m_get 8 162 = some (.if_icmp .ge 28, 3) := by decide +kernel
theorem g8_165 : m_get 8 165 = some (.aload_n 0, 1) := by decide +kernel
theorem g8_166 : m_get 8 166 = some (.getfield 28, 3) := by decide +kernel
theorem g8_169 : m_get 8 169 = some (.iload 6, 2) := by decide +kernel
theorem g8_171 : m_get 8 171 = some (.aload_n 1, 1) := by decide +kernel
theorem g8_172 : m_get 8 172 = some (.getfield 56, 3) := by decide +kernel
theorem g8_175 : m_get 8 175 = some (.aload_n 2, 1) := by decide +kernel
theorem g8_176 : m_get 8 176 = some (.aload_n 1, 1) := by decide +kernel
theorem g8_177 : m_get 8 177 = some (.iload 6, 2) := by decide +kernel
theorem g8_179 : m_get 8 179 = some (.invokevirtual 59, 3) := by decide +kernel
theorem g8_182 : m_get 8 182 = some (.isub, 1) := by decide +kernel
theorem g8_183 : m_get 8 183 = some (.iastore, 1) := by decide +kernel
theorem g8_184 : m_get 8 184 = some (.iinc 6 1, 3) := by decide +kernel
theorem g8_187 : m_get 8 187 = some (.goto (-29), 3) := by decide +kernel
theorem g8_190 : m_get 8 190 = some (.aload_n 0, 1) := by decide +kernel
theorem g8_191 : m_get 8 191 = some (.iconst 0, 1) := by decide +kernel
theorem g8_192 : m_get 8 192 = some (.putfield 63, 3) := by decide +kernel
theorem g8_195 : m_get 8 195 = some (.aload_n 0, 1) := by decide +kernel
theorem g8_196 : m_get 8 196 = some (.iload 4, 2) := by decide +kernel
theorem g8_198 : m_get 8 198 = some (.putfield 66, 3) := by decide +kernel
theorem g8_201 : m_get 8 201 = some (.aload_n 0, 1) := by decide +kernel
theorem g8_202 : m_get 8 202 = some (.aload_n 1, 1) := by decide +kernel
theorem g8_203 : m_get 8 203 = some (.invokevirtual 69, 3) := by decide +kernel
theorem g8_206 : m_get 8 206 = some (.iload 5, 2) := by decide +kernel
theorem g8_208 : m_get 8 208 = some (.if_icmp .lt 9, 3) := by decide +kernel
theorem g8_211 : m_get 8 211 = some (.aload_n 0, 1) := by decide +kernel
theorem g8_212 : m_get 8 212 = some (.aload_n 1, 1) := by decide +kernel
theorem g8_213 : m_get 8 213 = some (.iconst 0, 1) := by decide +kernel
theorem g8_214 : m_get 8 214 = some (.invokevirtual 73, 3) := by decide +kernel
theorem g8_217 : m_get 8 217 = some (.aload_n 0, 1) := by decide +kernel
theorem g8_218 : m_get 8 218 = some (.getfield 63, 3) := by decide +kernel
theorem g8_221 : m_get 8 221 = some (.ireturn, 1) := by decide +kernel
theorem f8_15 : m_fl (m_own 8) 15 = some (1, 1) := by decide +kernel
theorem f8_18 : m_fl (m_own 8) 18 = some (1, 2) := by decide +kernel
theorem f8_22 : m_fl (m_own 8) 22 = some (1, 3) := by decide +kernel
theorem f8_25 : m_fl (m_own 8) 25 = some (1, 4) := by decide +kernel
theorem f8_28 : m_fl (m_own 8) 28 = some (1, 5) := by decide +kernel
theorem f8_37 : m_fl (m_own 8) 37 = some (1, 6) := by decide +kernel
theorem f8_40 : m_fl (m_own 8) 40 = some (2, 0) := by decide +kernel
theorem f8_49 : m_fl (m_own 8) 49 = some (4, 0) := by decide +kernel
theorem f8_56 : m_fl (m_own 8) 56 = some (4, 4) := by decide +kernel
theorem f8_63 : m_fl (m_own 8) 63 = some (1, 7) := by decide +kernel
theorem f8_66 : m_fl (m_own 8) 66 = some (1, 8) := by decide +kernel
theorem k8_31 : m_ml (m_own 8) 31 = some (0, 36) := by decide +kernel
theorem k8_45 : m_ml (m_own 8) 45 = some (0, 17) := by decide +kernel
theorem k8_52 : m_ml (m_own 8) 52 = some (0, 18) := by decide +kernel
theorem k8_59 : m_ml (m_own 8) 59 = some (0, 19) := by decide +kernel
theorem k8_69 : m_ml (m_own 8) 69 = some (0, 11) := by decide +kernel
theorem k8_73 : m_ml (m_own 8) 73 = some (0, 9) := by decide +kernel
theorem g9_0 : m_get 9 0 = some (.iload_n 2, 1) := by decide +kernel
theorem g9_1 : m_get 9 1 = some (.ifCond .lt 17, 3) := by decide +kernel
theorem g9_4 : m_get 9 4 = some (.iload_n 2, 1) := by decide +kernel
theorem g9_5 : m_get 9 5 = some (.aload_n 0, 1) := by decide +kernel
theorem g9_6 : m_get 9 6 = some (.getfield 37, 3) := by decide +kernel
theorem g9_9 : m_get 9 9 = some (.if_icmp .ge 9, 3) := by decide +kernel
theorem g9_12 : m_get 9 12 = some (.iload_n 2, 1) := by decide +kernel
theorem g9_13 : m_get 9 13 = some (.bipush 6, 2) := by decide +kernel
theorem g9_15 : m_get 9 15 = some (.if_icmp .lt 29, 3) := by decide +kernel
theorem g9_18 : m_get 9 18 = some (.aload_n 0, 1) := by decide +kernel
theorem g9_19 : m_get 9 19 = some (.dup, 1) := by decide +kernel
theorem g9_20 : m_get 9 20 = some (.getfield 63, 3) := by decide +kernel
theorem g9_23 : m_get 9 23 = some (.iconst 1, 1) := by decide +kernel
theorem g9_24 : m_get 9 24 = some (.iadd, 1) := by decide +kernel
theorem g9_25 : m_get 9 25 = some (.putfield 63, 3) := by decide +kernel
theorem g9_28 : m_get 9 28 = some (.aload_n 0, 1) := by decide +kernel
theorem g9_29 : m_get 9 29 = some (.getfield 15, 3) := by decide +kernel
theorem g9_32 : m_get 9 32 = some (.iconst 0, 1) := by decide +kernel
theorem g9_33 : m_get 9 33 = some (.aload_n 0, 1) := by decide +kernel
theorem g9_34 : m_get 9 34 = some (.getfield 9, 3) := by decide +kernel
theorem g9_37 : m_get 9 37 = some (.iconst 0, 1) := by decide +kernel
theorem g9_38 : m_get 9 38 = some (.bipush 6, 2) := by decide +kernel
theorem g9_40 : m_get 9 40 = some (.invokestatic 77, 3) := by decide +kernel
theorem g9_43 : m_get 9 43 = some (.return_, 1) := by decide +kernel
theorem g9_44 : m_get 9 44 = some (.aload_n 0, 1) := by decide +kernel
theorem g9_45 : m_get 9 45 = some (.getfield 18, 3) := by decide +kernel
theorem g9_48 : m_get 9 48 = some (.iload_n 2, 1) := by decide +kernel
theorem g9_49 : m_get 9 49 = some (.baload, 1) := by decide +kernel
theorem g9_50 : m_get 9 50 = some (.ifCond .ne 12, 3) := by decide +kernel
theorem g9_53 : m_get 9 53 = some (.aload_n 0, 1) := by decide +kernel
theorem g9_54 : m_get 9 54 = some (.aload_n 1, 1) := by decide +kernel
theorem g9_55 : m_get 9 55 = some (.iload_n 2, 1) := by decide +kernel
theorem g9_56 : m_get 9 56 = some (.iconst 1, 1) := by decide +kernel
theorem g9_57 : m_get 9 57 = some (.iadd, 1) := by decide +kernel
theorem g9_58 : m_get 9 58 = some (.invokevirtual 73, 3) := by decide +kernel
theorem g9_61 : m_get 9 61 = some (.return_, 1) := by decide +kernel
theorem g9_62 : m_get 9 62 = some (.aload_n 0, 1) := by decide +kernel
theorem g9_63 : m_get 9 63 = some (.aload_n 1, 1) := by decide +kernel
theorem g9_64 : m_get 9 64 = some (.iload_n 2, 1) := by decide +kernel
theorem g9_65 : m_get 9 65 = some (.invokevirtual 83, 3) := by decide +kernel
theorem g9_68 : m_get 9 68 = some (.istore_n 3, 1) := by decide +kernel
theorem g9_69 : m_get 9 69 = some (.iconst 0, 1) := by decide +kernel
theorem g9_70 : m_get 9 70 = some (.istore 4, 2) := by decide +kernel
theorem g9_72 : m_get 9 72 = some (.iload 4, 2) := by decide +kernel
theorem g9_74 : m_get 9 74 = some (.bipush 24, 2) := by decide +kernel
theorem g9_76 : m_get 9 76 = some (.if_icmp .ge 38, 3) := by decide +kernel
theorem g9_79 : m_get 9 79 = some (.aload_n 0, 1) := by decide +kernel
theorem g9_80 : m_get 9 80 = some (.getfield 63, 3) := by decide +kernel
theorem g9_83 : m_get 9 83 = some (.aload_n 0, 1) := by decide +kernel
theorem g9_84 : m_get 9 84 = some (.getfield 66, 3) := by decide +kernel
theorem g9_87 : m_get 9 87 = some (.if_icmp .ge 27, 3) := by decide +kernel
theorem g9_90 : m_get 9 90 = some (.iload_n 3, 1) := by decide +kernel
theorem g9_91 : m_get 9 91 = some (.iload 4, 2) := by decide +kernel
theorem g9_93 : m_get 9 93 = some (.ishr, 1) := by decide +kernel
theorem g9_94 : m_get 9 94 = some (.iconst 1, 1) := by decide +kernel
theorem g9_95 : m_get 9 95 = some (.iand, 1) := by decide +kernel
theorem g9_96 : m_get 9 96 = some (.iconst 1, 1) := by decide +kernel
theorem g9_97 : m_get 9 97 = some (.if_icmp .ne 11, 3) := by decide +kernel
theorem g9_100 : m_get 9 100 = some (.aload_n 0, 1) := by decide +kernel
theorem g9_101 : m_get 9 101 = some (.aload_n 1, 1) := by decide +kernel
theorem g9_102 : m_get 9 102 = some (.iload_n 2, 1) := by decide +kernel
theorem g9_103 : m_get 9 103 = some (.iload 4, 2) := by decide +kernel
theorem g9_105 : m_get 9 105 = some (.invokevirtual 86, 3) := by decide +kernel
theorem g9_108 : m_get 9 108 = some (.iinc 4 1, 3) := by decide +kernel
theorem g9_111 : m_get 9 111 = some (.goto (-39), 3) := by decide +kernel
theorem g9_114 : m_get 9 114 = some (.return_, 1) := by decide +kernel
theorem f9_9 : m_fl (m_own 9) 9 = some (1, 0) := by decide +kernel
theorem f9_15 : m_fl (m_own 9) 15 = some (1, 1) := by decide +kernel
theorem f9_18 : m_fl (m_own 9) 18 = some (1, 2) := by decide +kernel
theorem f9_37 : m_fl (m_own 9) 37 = some (1, 6) := by decide +kernel
theorem f9_63 : m_fl (m_own 9) 63 = some (1, 7) := by decide +kernel
theorem f9_66 : m_fl (m_own 9) 66 = some (1, 8) := by decide +kernel
theorem k9_73 : m_ml (m_own 9) 73 = some (0, 9) := by decide +kernel
theorem k9_77 : m_ml (m_own 9) 77 = some (6, 0) := by decide +kernel
theorem k9_83 : m_ml (m_own 9) 83 = some (0, 12) := by decide +kernel
theorem k9_86 : m_ml (m_own 9) 86 = some (0, 10) := by decide +kernel
theorem g10_0 : m_get 10 0 = some (.iload_n 3, 1) := by decide +kernel
theorem g10_1 : m_get 10 1 = some (.iconst 4, 1) := by decide +kernel
theorem g10_2 : m_get 10 2 = some (.idiv, 1) := by decide +kernel
theorem g10_3 : m_get 10 3 = some (.istore 4, 2) := by decide +kernel
theorem g10_5 : m_get 10 5 = some (.iload 4, 2) := by decide +kernel
theorem g10_7 : m_get 10 7 = some (.ifCond .lt 20, 3) := by decide +kernel
theorem g10_10 : m_get 10 10 = some (.iload 4, 2) := by decide +kernel
theorem g10_12 : m_get 10 12 = some (.bipush 6, 2) := by decide +kernel
theorem g10_14 : m_get 10 14 = some (.if_icmp .ge 13, 3) := by decide +kernel
theorem g10_17 : m_get 10 17 = some (.aload_n 0, 1) := by decide +kernel
theorem g10_18 : m_get 10 18 = some (.getfield 25, 3) := by decide +kernel
theorem g10_21 : m_get 10 21 = some (.iload 4, 2) := by decide +kernel
theorem g10_23 : m_get 10 23 = some (.iaload, 1) := by decide +kernel
theorem g10_24 : m_get 10 24 = some (.ifCond .gt 4, 3) := by decide +kernel
theorem g10_27 : m_get 10 27 = some (.return_, 1) := by decide +kernel
theorem g10_28 : m_get 10 28 = some (.aload_n 1, 1) := by decide +kernel
theorem g10_29 : m_get 10 29 = some (.getfield 90, 3) := by decide +kernel
theorem g10_32 : m_get 10 32 = some (.iload 4, 2) := by decide +kernel
theorem g10_34 : m_get 10 34 = some (.iaload, 1) := by decide +kernel
theorem g10_35 : m_get 10 35 = some (.istore 5, 2) := by decide +kernel
theorem g10_37 : m_get 10 37 = some (.iload 5, 2) := by decide +kernel
theorem g10_39 : m_get 10 39 = some (.ifCond .lt 20, 3) := by decide +kernel
theorem g10_42 : m_get 10 42 = some (.iload 5, 2) := by decide +kernel
theorem g10_44 : m_get 10 44 = some (.bipush 6, 2) := by decide +kernel
theorem g10_46 : m_get 10 46 = some (.if_icmp .ge 13, 3) := by decide +kernel
theorem g10_49 : m_get 10 49 = some (.aload_n 0, 1) := by decide +kernel
theorem g10_50 : m_get 10 50 = some (.getfield 28, 3) := by decide +kernel
theorem g10_53 : m_get 10 53 = some (.iload 5, 2) := by decide +kernel
theorem g10_55 : m_get 10 55 = some (.iaload, 1) := by decide +kernel
theorem g10_56 : m_get 10 56 = some (.ifCond .gt 4, 3) := by decide +kernel
theorem g10_59 : m_get 10 59 = some (.return_, 1) := by decide +kernel
theorem g10_60 : m_get 10 60 = some (.aload_n 0, 1) := by decide +kernel
theorem g10_61 : m_get 10 61 = some (.getfield 15, 3) := by decide +kernel
theorem g10_64 : m_get 10 64 = some (.iload_n 2, 1) := by decide +kernel
theorem g10_65 : m_get 10 65 = some (.iload_n 3, 1) := by decide +kernel
theorem g10_66 : m_get 10 66 = some (.iastore, 1) := by decide +kernel
theorem g10_67 : m_get 10 67 = some (.aload_n 0, 1) := by decide +kernel
theorem g10_68 : m_get 10 68 = some (.getfield 25, 3) := by decide +kernel
theorem g10_71 : m_get 10 71 = some (.iload 4, 2) := by decide +kernel
theorem g10_73 : m_get 10 73 = some (.dup2, 1) := by decide +kernel
theorem g10_74 : m_get 10 74 = some (.iaload, 1) := by decide +kernel
theorem g10_75 : m_get 10 75 = some (.iconst 1, 1) := by decide +kernel
theorem g10_76 : m_get 10 76 = some (.isub, 1) := by decide +kernel
theorem g10_77 : m_get 10 77 = some (.iastore, 1) := by decide +kernel
theorem g10_78 : m_get 10 78 = some (.aload_n 0, 1) := by decide +kernel
theorem g10_79 : m_get 10 79 = some (.getfield 28, 3) := by decide +kernel
theorem g10_82 : m_get 10 82 = some (.iload 5, 2) := by decide +kernel
theorem g10_84 : m_get 10 84 = some (.dup2, 1) := by decide +kernel
theorem g10_85 : m_get 10 85 = some (.iaload, 1) := by decide +kernel
theorem g10_86 : m_get 10 86 = some (.iconst 1, 1) := by decide +kernel
theorem g10_87 : m_get 10 87 = some (.isub, 1) := by decide +kernel
theorem g10_88 : m_get 10 88 = some (.iastore, 1) := by decide +kernel
theorem g10_89 : m_get 10 89 = some (.aload_n 0, 1) := by decide +kernel
theorem g10_90 : m_get 10 90 = some (.aload_n 1, 1) := by decide +kernel
theorem g10_91 : m_get 10 91 = some (.iload_n 2, 1) := by decide +kernel
theorem g10_92 : m_get 10 92 = some (.iconst 1, 1) := by decide +kernel
theorem g10_93 : m_get 10 93 = some (.iadd, 1) := by decide +kernel
theorem g10_94 : m_get 10 94 = some (.invokevirtual 73, 3) := by decide +kernel
theorem g10_97 : m_get 10 97 = some (.aload_n 0, 1) := by decide +kernel
theorem g10_98 : m_get 10 98 = some (.getfield 28, 3) := by decide +kernel
theorem g10_101 : m_get 10 101 = some (.iload 5, 2) := by decide +kernel
theorem g10_103 : m_get 10 103 = some (.dup2, 1) := by decide +kernel
theorem g10_104 : m_get 10 104 = some (.iaload, 1) := by decide +kernel
theorem g10_105 : m_get 10 105 = some (.iconst 1, 1) := by decide +kernel
theorem g10_106 : m_get 10 106 = some (.iadd, 1) := by decide +kernel
theorem g10_107 : m_get 10 107 = some (.iastore, 1) := by decide +kernel
theorem g10_108 : m_get 10 108 = some (.aload_n 0, 1) := by decide +kernel
theorem g10_109 : m_get 10 109 = some (.getfield 25, 3) := by decide +kernel
theorem g10_112 : m_get 10 112 = some (.iload 4, 2) := by decide +kernel
theorem g10_114 : m_get 10 114 = some (.dup2, 1) := by decide +kernel
theorem g10_115 : m_get 10 115 = some (.iaload, 1) := by decide +kernel
theorem g10_116 : m_get 10 116 = some (.iconst 1, 1) := by decide +kernel
theorem g10_117 : m_get 10 117 = some (.iadd, 1) := by decide +kernel
theorem g10_118 : m_get 10 118 = some (.iastore, 1) := by decide +kernel
theorem g10_119 : m_get 10 119 = some (.return_, 1) := by decide +kernel
theorem f10_15 : m_fl (m_own 10) 15 = some (1, 1) := by decide +kernel
theorem f10_25 : m_fl (m_own 10) 25 = some (1, 4) := by decide +kernel
theorem f10_28 : m_fl (m_own 10) 28 = some (1, 5) := by decide +kernel
theorem f10_90 : m_fl (m_own 10) 90 = some (4, 8) := by decide +kernel
theorem k10_73 : m_ml (m_own 10) 73 = some (0, 9) := by decide +kernel
theorem g11_0 : m_get 11 0 = some (.iconst 0, 1) := by decide +kernel
theorem g11_1 : m_get 11 1 = some (.istore_n 2, 1) := by decide +kernel
theorem g11_2 : m_get 11 2 = some (.iconst 0, 1) := by decide +kernel
theorem g11_3 : m_get 11 3 = some (.istore_n 3, 1) := by decide +kernel
theorem g11_4 : m_get 11 4 = some (.iload_n 3, 1) := by decide +kernel
theorem g11_5 : m_get 11 5 = some (.bipush 6, 2) := by decide +kernel
theorem g11_7 : m_get 11 7 = some (.if_icmp .ge 79, 3) := by decide +kernel
theorem g11_10 : m_get 11 10 = some (.iconst 0, 1) := by decide +kernel
theorem g11_11 : m_get 11 11 = some (.istore 4, 2) := by decide +kernel
theorem g11_13 : m_get 11 13 = some (.iconst 0, 1) := by decide +kernel
theorem g11_14 : m_get 11 14 = some (.istore 5, 2) := by decide +kernel
theorem g11_16 : m_get 11 16 = some (.iload 5, 2) := by decide +kernel
theorem g11_18 : m_get 11 18 = some (.aload_n 1, 1) := by decide +kernel
theorem g11_19 : m_get 11 19 = some (.getfield 49, 3) := by decide +kernel
theorem g11_22 : m_get 11 22 = some (.if_icmp .ge 40, 3) := by decide +kernel
theorem g11_25 : m_get 11 25 = some (.iload 4, 2) := by decide +kernel
theorem g11_27 : m_get 11 27 = some (.aload_n 1, 1) := by decide +kernel
theorem g11_28 : m_get 11 28 = some (.getfield 90, 3) := by decide +kernel
theorem g11_31 : m_get 11 31 = some (.iload 5, 2) := by decide +kernel
theorem g11_33 : m_get 11 33 = some (.iaload, 1) := by decide +kernel
theorem g11_34 : m_get 11 34 = some (.iload_n 3, 1) := by decide +kernel
theorem g11_35 : m_get 11 35 = some (.if_icmp .ne 17, 3) := by decide +kernel
theorem g11_38 : m_get 11 38 = some (.aload_n 0, 1) := by decide +kernel
theorem g11_39 : m_get 11 39 = some (.getfield 25, 3) := by decide +kernel
theorem g11_42 : m_get 11 42 = some (.iload 5, 2) := by decide +kernel
theorem g11_44 : m_get 11 44 = some (.iaload, 1) := by decide +kernel
theorem g11_45 : m_get 11 45 = some (.iconst 0, 1) := by decide +kernel
theorem g11_46 : m_get 11 46 = some (.invokestatic 93, 3) := by decide +kernel
theorem g11_49 : m_get 11 49 = some (.goto 4, 3) := by decide +kernel
theorem g11_52 : m_get 11 52 = some (.iconst 0, 1) := by decide +kernel
theorem g11_53 : m_get 11 53 = some (.iadd, 1) := by decide +kernel
theorem g11_54 : m_get 11 54 = some (.istore 4, 2) := by decide +kernel
theorem g11_56 : m_get 11 56 = some (.iinc 5 1, 3) := by decide +kernel
theorem g11_59 : m_get 11 59 = some (.goto (-43), 3) := by decide +kernel
theorem g11_62 : m_get 11 62 = some (.iload_n 2, 1) := by decide +kernel
theorem g11_63 : m_get 11 63 = some (.iload 4, 2) := by decide +kernel
theorem g11_65 : m_get 11 65 = some (.aload_n 0, 1) := by decide +kernel
theorem g11_66 : m_get 11 66 = some (.getfield 28, 3) := by decide +kernel
theorem g11_69 : m_get 11 69 = some (.iload_n 3, 1) := by decide +kernel
theorem g11_70 : m_get 11 70 = some (.iaload, 1) := by decide +kernel
theorem g11_71 : m_get 11 71 = some (.invokestatic 99, 3) := by decide +kernel
theorem g11_74 : m_get 11 74 = some (.iconst 0, 1) := by decide +kernel
theorem g11_75 : m_get 11 75 = some (.invokestatic 93, 3) := by decide +kernel
theorem g11_78 : m_get 11 78 = some (.iadd, 1) := by decide +kernel
theorem g11_79 : m_get 11 79 = some (.istore_n 2, 1) := by decide +kernel
theorem g11_80 : m_get 11 80 = some (.iinc 3 1, 3) := by decide +kernel
theorem g11_83 : m_get 11 83 = some (.goto (-79), 3) := by decide +kernel
theorem g11_86 : m_get 11 86 = some (.iload_n 2, 1) := by decide +kernel
theorem g11_87 : m_get 11 87 = some (.ireturn, 1) := by decide +kernel
theorem f11_25 : m_fl (m_own 11) 25 = some (1, 4) := by decide +kernel
theorem f11_28 : m_fl (m_own 11) 28 = some (1, 5) := by decide +kernel
theorem f11_49 : m_fl (m_own 11) 49 = some (4, 0) := by decide +kernel
theorem f11_90 : m_fl (m_own 11) 90 = some (4, 8) := by decide +kernel
theorem k11_93 : m_ml (m_own 11) 93 = some (7, 0) := by decide +kernel
theorem k11_99 : m_ml (m_own 11) 99 = some (8, 0) := by decide +kernel
theorem g12_0 : m_get 12 0 = some (.aload_n 0, 1) := by decide +kernel
theorem g12_1 : m_get 12 1 = some (.getfield 22, 3) := by decide +kernel
theorem g12_4 : m_get 12 4 = some (.iload_n 2, 1) := by decide +kernel
theorem g12_5 : m_get 12 5 = some (.iaload, 1) := by decide +kernel
theorem g12_6 : m_get 12 6 = some (.istore_n 3, 1) := by decide +kernel
theorem g12_7 : m_get 12 7 = some (.aload_n 1, 1) := by decide +kernel
theorem g12_8 : m_get 12 8 = some (.iload_n 2, 1) := by decide +kernel
theorem g12_9 : m_get 12 9 = some (.iconst 0, 1) := by decide +kernel
theorem g12_10 : m_get 12 10 = some (.invokevirtual 102, 3) := by decide +kernel
theorem g12_13 : m_get 12 13 = some (.istore 4, 2) := by decide +kernel
theorem g12_15 : m_get 12 15 = some (.iload 4, 2) := by decide +kernel
theorem g12_17 : m_get 12 17 = some (.ifCond .lt 30, 3) := by decide +kernel
theorem g12_20 : m_get 12 20 = some (.iload 4, 2) := by decide +kernel
theorem g12_22 : m_get 12 22 = some (.bipush 6, 2) := by decide +kernel
theorem g12_24 : m_get 12 24 = some (.if_icmp .ge 23, 3) := by decide +kernel
theorem g12_27 : m_get 12 27 = some (.iload_n 3, 1) := by decide +kernel
theorem g12_28 : m_get 12 28 = some (.aload_n 1, 1) := by decide +kernel
theorem g12_29 : m_get 12 29 = some (.iconst 0, 1) := by decide +kernel
theorem g12_30 : m_get 12 30 = some (.aload_n 1, 1) := by decide +kernel
theorem g12_31 : m_get 12 31 = some (.aload_n 0, 1) := by decide +kernel
theorem g12_32 : m_get 12 32 = some (.getfield 15, 3) := by decide +kernel
theorem g12_35 : m_get 12 35 = some (.iload 4, 2) := by decide +kernel
theorem g12_37 : m_get 12 37 = some (.iaload, 1) := by decide +kernel
theorem g12_38 : m_get 12 38 = some (.iconst 2, 1) := by decide +kernel
theorem g12_39 : m_get 12 39 = some (.invokevirtual 105, 3) := by decide +kernel
theorem g12_42 : m_get 12 42 = some (.invokevirtual 108, 3) := by decide +kernel
theorem g12_45 : m_get 12 45 = some (.iand, 1) := by decide +kernel
theorem g12_46 : m_get 12 46 = some (.istore_n 3, 1) := by decide +kernel
theorem g12_47 : m_get 12 47 = some (.aload_n 1, 1) := by decide +kernel
theorem g12_48 : m_get 12 48 = some (.iload_n 2, 1) := by decide +kernel
theorem g12_49 : m_get 12 49 = some (.iconst 3, 1) := by decide +kernel
theorem g12_50 : m_get 12 50 = some (.invokevirtual 102, 3) := by decide +kernel
theorem g12_53 : m_get 12 53 = some (.istore 5, 2) := by decide +kernel
theorem g12_55 : m_get 12 55 = some (.iload 5, 2) := by decide +kernel
theorem g12_57 : m_get 12 57 = some (.ifCond .lt 30, 3) := by decide +kernel
theorem g12_60 : m_get 12 60 = some (.iload 5, 2) := by decide +kernel
theorem g12_62 : m_get 12 62 = some (.bipush 6, 2) := by decide +kernel
theorem g12_64 : m_get 12 64 = some (.if_icmp .ge 23, 3) := by decide +kernel
theorem g12_67 : m_get 12 67 = some (.iload_n 3, 1) := by decide +kernel
theorem g12_68 : m_get 12 68 = some (.aload_n 1, 1) := by decide +kernel
theorem g12_69 : m_get 12 69 = some (.iconst 3, 1) := by decide +kernel
theorem g12_70 : m_get 12 70 = some (.aload_n 1, 1) := by decide +kernel
theorem g12_71 : m_get 12 71 = some (.aload_n 0, 1) := by decide +kernel
theorem g12_72 : m_get 12 72 = some (.getfield 15, 3) := by decide +kernel
theorem g12_75 : m_get 12 75 = some (.iload 5, 2) := by decide +kernel
theorem g12_77 : m_get 12 77 = some (.iaload, 1) := by decide +kernel
theorem g12_78 : m_get 12 78 = some (.iconst 1, 1) := by decide +kernel
theorem g12_79 : m_get 12 79 = some (.invokevirtual 105, 3) := by decide +kernel
theorem g12_82 : m_get 12 82 = some (.invokevirtual 108, 3) := by decide +kernel
theorem g12_85 : m_get 12 85 = some (.iand, 1) := by decide +kernel
theorem g12_86 : m_get 12 86 = some (.istore_n 3, 1) := by decide +kernel
theorem g12_87 : m_get 12 87 = some (.iload_n 3, 1) := by decide +kernel
theorem g12_88 : m_get 12 88 = some (.ireturn, 1) := by decide +kernel
theorem f12_15 : m_fl (m_own 12) 15 = some (1, 1) := by decide +kernel
theorem f12_22 : m_fl (m_own 12) 22 = some (1, 3) := by decide +kernel
theorem k12_102 : m_ml (m_own 12) 102 = some (0, 42) := by decide +kernel
theorem k12_105 : m_ml (m_own 12) 105 = some (0, 37) := by decide +kernel
theorem k12_108 : m_ml (m_own 12) 108 = some (0, 41) := by decide +kernel
theorem g13_0 : m_get 13 0 = some (.aload_n 0, 1) := by decide +kernel
theorem g13_1 : m_get 13 1 = some (.invokespecial 3, 3) := by decide +kernel
theorem g13_4 : m_get 13 4 = some (.aload_n 0, 1) := by decide +kernel
theorem g13_5 : m_get 13 5 = some (.bipush 6, 2) := by decide +kernel
theorem g13_7 : m_get 13 7 = some (.newarray .int, 2) := by decide +kernel
theorem g13_9 : m_get 13 9 = some (.putfield 9, 3) := by decide +kernel
theorem g13_12 : m_get 13 12 = some (.aload_n 0, 1) := by decide +kernel
theorem g13_13 : m_get 13 13 = some (.bipush 6, 2) := by decide +kernel
theorem g13_15 : m_get 13 15 = some (.newarray .int, 2) := by decide +kernel
theorem g13_17 : m_get 13 17 = some (.putfield 15, 3) := by decide +kernel
theorem g13_20 : m_get 13 20 = some (.aload_n 0, 1) := by decide +kernel
theorem g13_21 : m_get 13 21 = some (.invokevirtual 18, 3) := by decide +kernel
theorem g13_24 : m_get 13 24 = some (.return_, 1) := by decide +kernel
theorem f13_9 : m_fl (m_own 13) 9 = some (2, 0) := by decide +kernel
theorem f13_15 : m_fl (m_own 13) 15 = some (2, 1) := by decide +kernel
theorem k13_3 : m_ml (m_own 13) 3 = some (5, 0) := by decide +kernel
theorem k13_18 : m_ml (m_own 13) 18 = some (0, 16) := by decide +kernel
theorem g14_0 : m_get 14 0 = some (.aload_n 0, 1) := by decide +kernel
theorem g14_1 : m_get 14 1 = some (.invokevirtual 18, 3) := by decide +kernel
theorem g14_4 : m_get 14 4 = some (.aload_n 1, 1) := by decide +kernel
theorem g14_5 : m_get 14 5 = some (.getfield 21, 3) := by decide +kernel
theorem g14_8 : m_get 14 8 = some (.iconst 0, 1) := by decide +kernel
theorem g14_9 : m_get 14 9 = some (.aload_n 0, 1) := by decide +kernel
theorem g14_10 : m_get 14 10 = some (.getfield 15, 3) := by decide +kernel
theorem g14_13 : m_get 14 13 = some (.iconst 0, 1) := by decide +kernel
theorem g14_14 : m_get 14 14 = some (.bipush 6, 2) := by decide +kernel
theorem g14_16 : m_get 14 16 = some (.invokestatic 24, 3) := by decide +kernel
theorem g14_19 : m_get 14 19 = some (.return_, 1) := by decide +kernel
theorem f14_15 : m_fl (m_own 14) 15 = some (2, 1) := by decide +kernel
theorem f14_21 : m_fl (m_own 14) 21 = some (4, 9) := by decide +kernel
theorem k14_18 : m_ml (m_own 14) 18 = some (0, 16) := by decide +kernel
theorem k14_24 : m_ml (m_own 14) 24 = some (6, 0) := by decide +kernel
theorem g15_0 : m_get 15 0 = some (.aload_n 1, 1) := by decide +kernel
theorem g15_1 : m_get 15 1 = some (.getfield 9, 3) := by decide +kernel
theorem g15_4 : m_get 15 4 = some (.iconst 0, 1) := by decide +kernel
theorem g15_5 : m_get 15 5 = some (.aload_n 0, 1) := by decide +kernel
theorem g15_6 : m_get 15 6 = some (.getfield 9, 3) := by decide +kernel
theorem g15_9 : m_get 15 9 = some (.iconst 0, 1) := by decide +kernel
theorem g15_10 : m_get 15 10 = some (.bipush 6, 2) := by decide +kernel
theorem g15_12 : m_get 15 12 = some (.invokestatic 24, 3) := by decide +kernel
theorem g15_15 : m_get 15 15 = some (.aload_n 1, 1) := by decide +kernel
theorem g15_16 : m_get 15 16 = some (.getfield 15, 3) := by decide +kernel
theorem g15_19 : m_get 15 19 = some (.iconst 0, 1) := by decide +kernel
theorem g15_20 : m_get 15 20 = some (.aload_n 0, 1) := by decide +kernel
theorem g15_21 : m_get 15 21 = some (.getfield 15, 3) := by decide +kernel
theorem g15_24 : m_get 15 24 = some (.iconst 0, 1) := by decide +kernel
theorem g15_25 : m_get 15 25 = some (.bipush 6, 2) := by decide +kernel
theorem g15_27 : m_get 15 27 = some (.invokestatic 24, 3) := by decide +kernel
theorem g15_30 : m_get 15 30 = some (.return_, 1) := by decide +kernel
theorem f15_9 : m_fl (m_own 15) 9 = some (2, 0) := by decide +kernel
theorem f15_15 : m_fl (m_own 15) 15 = some (2, 1) := by decide +kernel
theorem k15_24 : m_ml (m_own 15) 24 = some (6, 0) := by decide +kernel
theorem g16_0 : m_get 16 0 = some (.aload_n 0, 1) := by decide +kernel
theorem g16_1 : m_get 16 1 = some (.getfield 9, 3) := by decide +kernel
theorem g16_4 : m_get 16 4 = some (.bipush (-9), 2) := by decide +kernel
theorem g16_6 : m_get 16 6 = some (.invokestatic 30, 3) := by decide +kernel
theorem g16_9 : m_get 16 9 = some (.return_, 1) := by decide +kernel
theorem f16_9 : m_fl (m_own 16) 9 = some (2, 0) := by decide +kernel
theorem k16_30 : m_ml (m_own 16) 30 = some (1, 161) := by decide +kernel
theorem g17_0 : m_get 17 0 = some (.iload_n 1, 1) := by decide +kernel
theorem g17_1 : m_get 17 1 = some (.ifCond .lt 24, 3) := by decide +kernel
theorem g17_4 : m_get 17 4 = some (.iload_n 1, 1) := by decide +kernel
theorem g17_5 : m_get 17 5 = some (.bipush 6, 2) := by decide +kernel
theorem g17_7 : m_get 17 7 = some (.if_icmp .ge 18, 3) := by decide +kernel
theorem g17_10 : m_get 17 10 = some (.aload_n 0, 1) := by decide +kernel
theorem g17_11 : m_get 17 11 = some (.getfield 9, 3) := by decide +kernel
theorem g17_14 : m_get 17 14 = some (.iload_n 1, 1) := by decide +kernel
theorem g17_15 : m_get 17 15 = some (.iaload, 1) := by decide +kernel
theorem g17_16 : m_get 17 16 = some (.bipush (-9), 2) := by decide +kernel
theorem g17_18 : m_get 17 18 = some (.if_icmp .ne 7, 3) := by decide +kernel
theorem g17_21 : m_get 17 21 = some (.iconst 1, 1) := by decide +kernel
theorem g17_22 : m_get 17 22 = some (.goto 4, 3) := by decide +kernel
theorem g17_25 : m_get 17 25 = some (.iconst 0, 1) := by decide +kernel
theorem g17_26 : m_get 17 26 = some (.ireturn, 1) := by decide +kernel
theorem f17_9 : m_fl (m_own 17) 9 = some (2, 0) := by decide +kernel
theorem g18_0 : m_get 18 0 = some (.iload_n 1, 1) := by decide +kernel
theorem g18_1 : m_get 18 1 = some (.ifCond .lt 9, 3) := by decide +kernel
theorem g18_4 : m_get 18 4 = some (.iload_n 1, 1) := by decide +kernel
theorem g18_5 : m_get 18 5 = some (.bipush 6, 2) := by decide +kernel
theorem g18_7 : m_get 18 7 = some (.if_icmp .lt 5, 3) := by decide +kernel
theorem g18_10 : m_get 18 10 = some (.iconst 0, 1) := by decide +kernel
theorem g18_11 : m_get 18 11 = some (.ireturn, 1) := by decide +kernel
theorem g18_12 : m_get 18 12 = some (.iconst 0, 1) := by decide +kernel
theorem g18_13 : m_get 18 13 = some (.istore_n 2, 1) := by decide +kernel
theorem g18_14 : m_get 18 14 = some (.iconst 0, 1) := by decide +kernel
theorem g18_15 : m_get 18 15 = some (.istore_n 3, 1) := by decide +kernel
theorem g18_16 : m_get 18 16 = some (.iload_n 3, 1) := by decide +kernel
theorem g18_17 : m_get 18 17 = some (.bipush 6, 2) := by decide +kernel
theorem g18_19 : m_get 18 19 = some (.if_icmp .ge 33, 3) := by decide +kernel
theorem g18_22 : m_get 18 22 = some (.aload_n 0, 1) := by decide +kernel
theorem g18_23 : m_get 18 23 = some (.getfield 9, 3) := by decide +kernel
theorem g18_26 : m_get 18 26 = some (.iload_n 3, 1) := by decide +kernel
theorem g18_27 : m_get 18 27 = some (.iaload, 1) := by decide +kernel
theorem g18_28 : m_get 18 28 = some (.ifCond .lt 18, 3) := by decide +kernel
theorem g18_31 : m_get 18 31 = some (.aload_n 0, 1) := by decide +kernel
theorem g18_32 : m_get 18 32 = some (.getfield 9, 3) := by decide +kernel
theorem g18_35 : m_get 18 35 = some (.iload_n 3, 1) := by decide +kernel
theorem g18_36 : m_get 18 36 = some (.iaload, 1) := by decide +kernel
theorem g18_37 : m_get 18 37 = some (.iconst 4, 1) := by decide +kernel
theorem g18_38 : m_get 18 38 = some (.idiv, 1) := by decide +kernel
theorem g18_39 : m_get 18 39 = some (.iload_n 1, 1) := by decide +kernel
theorem g18_40 : m_get 18 40 = some (.if_icmp .ne 6, 3) := by decide +kernel
theorem g18_43 : m_get 18 43 = some (.iinc 2 1, 3) := by decide +kernel
theorem g18_46 : m_get 18 46 = some (.iinc 3 1, 3) := by decide +kernel
theorem g18_49 : m_get 18 49 = some (.goto (-33), 3) := by decide +kernel
theorem g18_52 : m_get 18 52 = some (.aload_n 0, 1) := by decide +kernel
theorem g18_53 : m_get 18 53 = some (.getfield 15, 3) := by decide +kernel
theorem g18_56 : m_get 18 56 = some (.iload_n 1, 1) := by decide +kernel
theorem g18_57 : m_get 18 57 = some (.iaload, 1) := by decide +kernel
theorem g18_58 : m_get 18 58 = some (.iload_n 2, 1) := by decide +kernel
theorem g18_59 : m_get 18 59 = some (.isub, 1) := by decide +kernel
theorem g18_60 : m_get 18 60 = some (.ireturn, 1) := by decide +kernel
theorem f18_9 : m_fl (m_own 18) 9 = some (2, 0) := by decide +kernel
theorem f18_15 : m_fl (m_own 18) 15 = some (2, 1) := by decide +kernel
theorem g19_0 : m_get 19 0 = some (.iconst 0, 1) := by decide +kernel
theorem g19_1 : m_get 19 1 = some (.istore_n 3, 1) := by decide +kernel
theorem g19_2 : m_get 19 2 = some (.iconst 0, 1) := by decide +kernel
theorem g19_3 : m_get 19 3 = some (.istore 4, 2) := by decide +kernel
theorem g19_5 : m_get 19 5 = some (.iload 4, 2) := by decide +kernel
theorem g19_7 : m_get 19 7 = some (.bipush 6, 2) := by decide +kernel
theorem g19_9 : m_get 19 9 = some (.if_icmp .ge 51, 3) := by decide +kernel
theorem g19_12 : m_get 19 12 = some (.aload_n 0, 1) := by decide +kernel
theorem g19_13 : m_get 19 13 = some (.getfield 9, 3) := by decide +kernel
theorem g19_16 : m_get 19 16 = some (.iload 4, 2) := by decide +kernel
theorem g19_18 : m_get 19 18 = some (.iaload, 1) := by decide +kernel
theorem g19_19 : m_get 19 19 = some (.iconst 4, 1) := by decide +kernel
theorem g19_20 : m_get 19 20 = some (.idiv, 1) := by decide +kernel
theorem g19_21 : m_get 19 21 = some (.istore 5, 2) := by decide +kernel
theorem g19_23 : m_get 19 23 = some (.aload_n 0, 1) := by decide +kernel
theorem g19_24 : m_get 19 24 = some (.getfield 9, 3) := by decide +kernel
theorem g19_27 : m_get 19 27 = some (.iload 4, 2) := by decide +kernel
theorem g19_29 : m_get 19 29 = some (.iaload, 1) := by decide +kernel
theorem g19_30 : m_get 19 30 = some (.ifCond .lt 24, 3) := by decide +kernel
theorem g19_33 : m_get 19 33 = some (.iload 5, 2) := by decide +kernel
theorem g19_35 : m_get 19 35 = some (.bipush 6, 2) := by decide +kernel
theorem g19_37 : m_get 19 37 = some (.if_icmp .ge 17, 3) := by decide +kernel
theorem g19_40 : m_get 19 40 = some (.aload_n 1, 1) := by decide +kernel
theorem g19_41 : m_get 19 41 = some (.getfield 36, 3) := by decide +kernel
theorem g19_44 : m_get 19 44 = some (.iload 5, 2) := by decide +kernel
theorem g19_46 : m_get 19 46 = some (.iaload, 1) := by decide +kernel
theorem g19_47 : m_get 19 47 = some (.iload_n 2, 1) := by decide +kernel
theorem g19_48 : m_get 19 48 = some (.if_icmp .ne 6, 3) := by decide +kernel
theorem g19_51 : m_get 19 51 = some (.iinc 3 1, 3) := by decide +kernel
theorem g19_54 : m_get 19 54 = some (.iinc 4 1, 3) := by decide +kernel
theorem g19_57 : m_get 19 57 = some (.goto (-52), 3) := by decide +kernel
theorem g19_60 : m_get 19 60 = some (.iload_n 3, 1) := by decide +kernel
theorem g19_61 : m_get 19 61 = some (.ireturn, 1) := by decide +kernel
theorem f19_9 : m_fl (m_own 19) 9 = some (2, 0) := by decide +kernel
theorem f19_36 : m_fl (m_own 19) 36 = some (4, 8) := by decide +kernel
theorem g20_0 : m_get 20 0 = some (.aload_n 0, 1) := by decide +kernel
theorem g20_1 : m_get 20 1 = some (.invokespecial 3, 3) := by decide +kernel
theorem g20_4 : m_get 20 4 = some (.return_, 1) := by decide +kernel
theorem k20_3 : m_ml (m_own 20) 3 = some (5, 0) := by decide +kernel
theorem g21_0 : m_get 21 0 = some (.aload_n 0, 1) := by decide +kernel
theorem g21_1 : m_get 21 1 = some (.aload_n 1, 1) := by decide +kernel
theorem g21_2 : m_get 21 2 = some (.invokevirtual 9, 3) := by decide +kernel
theorem g21_5 : m_get 21 5 = some (.iload_n 3, 1) := by decide +kernel
theorem g21_6 : m_get 21 6 = some (.aload_n 2, 1) := by decide +kernel
theorem g21_7 : m_get 21 7 = some (.arraylength, 1) := by decide +kernel
theorem g21_8 : m_get 21 8 = some (.invokestatic 15, 3) := by decide +kernel
theorem g21_11 : m_get 21 11 = some (.istore 4, 2) := by decide +kernel
theorem g21_13 : m_get 21 13 = some (.iconst 0, 1) := by decide +kernel
theorem g21_14 : m_get 21 14 = some (.istore 5, 2) := by decide +kernel
theorem g21_16 : m_get 21 16 = some (.aload_n 0, 1) := by decide +kernel
theorem g21_17 : m_get 21 17 = some (.aload_n 2, 1) := by decide +kernel
theorem g21_18 : m_get 21 18 = some (.iload 4, 2) := by decide +kernel
theorem g21_20 : m_get 21 20 = some (.invokevirtual 21, 3) := by decide +kernel
theorem g21_23 : m_get 21 23 = some (.aload_n 0, 1) := by decide +kernel
theorem g21_24 : m_get 21 24 = some (.getfield 25, 3) := by decide +kernel
theorem g21_27 : m_get 21 27 = some (.iconst (-1), 1) := by decide +kernel
theorem g21_28 : m_get 21 28 = some (.if_icmp .eq 42, 3) := by decide +kernel
theorem g21_31 : m_get 21 31 = some (.iload 5, 2) := by decide +kernel
theorem g21_33 : m_get 21 33 = some (.bipush 120, 2) := by decide +kernel
theorem g21_35 : m_get 21 35 = some (.if_icmp .gt 35, 3) := by decide +kernel
theorem g21_38 : m_get 21 38 = some (.aload_n 0, 1) := by decide +kernel
theorem g21_39 : m_get 21 39 = some (.aload_n 1, 1) := by decide +kernel
theorem g21_40 : m_get 21 40 = some (.aload_n 2, 1) := by decide +kernel
theorem g21_41 : m_get 21 41 = some (.iload 4, 2) := by decide +kernel
theorem g21_43 : m_get 21 43 = some (.invokevirtual 29, 3) := by decide +kernel
theorem g21_46 : m_get 21 46 = some (.ifCond .ne 11, 3) := by decide +kernel
theorem g21_49 : m_get 21 49 = some (.bipush (-10), 2) := by decide +kernel
theorem g21_51 : m_get 21 51 = some (.aload_n 0, 1) := by decide +kernel
theorem g21_52 : m_get 21 52 = some (.getfield 33, 3) := by decide +kernel
theorem g21_55 : m_get 21 55 = some (.isub, 1) := by decide +kernel
theorem g21_56 : m_get 21 56 = some (.ireturn, 1) := by decide +kernel
theorem g21_57 : m_get 21 57 = some (.iinc 5 1, 3) := by decide +kernel
theorem g21_60 : m_get 21 60 = some (.aload_n 0, 1) := by decide +kernel
theorem g21_61 : m_get 21 61 = some (.aload_n 2, 1) := by decide +kernel
theorem g21_62 : m_get 21 62 = some (.iload 4, 2) := by decide +kernel
theorem g21_64 : m_get 21 64 = some (.invokevirtual 21, 3) := by decide +kernel
theorem g21_67 : m_get 21 67 = some (.goto (-44), 3) := by decide +kernel
theorem g21_70 : m_get 21 70 = some (.iload 5, 2) := by decide +kernel
theorem g21_72 : m_get 21 72 = some (.ireturn, 1) := by decide +kernel
theorem f21_25 : m_fl (m_own 21) 25 = some (3, 2) := by decide +kernel
theorem f21_33 : m_fl (m_own 21) 33 = some (3, 1) := by decide +kernel
theorem k21_9 : m_ml (m_own 21) 9 = some (0, 22) := by decide +kernel
theorem k21_15 : m_ml (m_own 21) 15 = some (8, 0) := by decide +kernel
theorem k21_21 : m_ml (m_own 21) 21 = some (0, 30) := by decide +kernel
theorem k21_29 : m_ml (m_own 21) 29 = some (0, 23) := by decide +kernel
theorem g22_0 : m_get 22 0 = some (.aload_n 1, 1) := by decide +kernel
theorem g22_1 : m_get 22 1 = some (.invokevirtual 36, 3) := by decide +kernel
theorem g22_4 : m_get 22 4 = some (.aload_n 0, 1) := by decide +kernel
theorem g22_5 : m_get 22 5 = some (.iconst 0, 1) := by decide +kernel
theorem g22_6 : m_get 22 6 = some (.putfield 40, 3) := by decide +kernel
theorem g22_9 : m_get 22 9 = some (.aload_n 0, 1) := by decide +kernel
theorem g22_10 : m_get 22 10 = some (.iconst 0, 1) := by decide +kernel
theorem g22_11 : m_get 22 11 = some (.putfield 43, 3) := by decide +kernel
theorem g22_14 : m_get 22 14 = some (.aload_n 0, 1) := by decide +kernel
theorem g22_15 : m_get 22 15 = some (.iconst 0, 1) := by decide +kernel
theorem g22_16 : m_get 22 16 = some (.putfield 47, 3) := by decide +kernel
theorem g22_19 : m_get 22 19 = some (.aload_n 0, 1) := by decide +kernel
theorem g22_20 : m_get 22 20 = some (.iconst 0, 1) := by decide +kernel
theorem g22_21 : m_get 22 21 = some (.putfield 50, 3) := by decide +kernel
theorem g22_24 : m_get 22 24 = some (.aload_n 0, 1) := by decide +kernel
theorem g22_25 : m_get 22 25 = some (.iconst 0, 1) := by decide +kernel
theorem g22_26 : m_get 22 26 = some (.putfield 53, 3) := by decide +kernel
theorem g22_29 : m_get 22 29 = some (.return_, 1) := by decide +kernel
theorem f22_40 : m_fl (m_own 22) 40 = some (3, 0) := by decide +kernel
theorem f22_43 : m_fl (m_own 22) 43 = some (3, 4) := by decide +kernel
theorem f22_47 : m_fl (m_own 22) 47 = some (3, 5) := by decide +kernel
theorem f22_50 : m_fl (m_own 22) 50 = some (3, 6) := by decide +kernel
theorem f22_53 : m_fl (m_own 22) 53 = some (3, 7) := by decide +kernel
theorem k22_36 : m_ml (m_own 22) 36 = some (0, 35) := by decide +kernel
theorem g23_0 : m_get 23 0 = some (.aload_n 0, 1) := by decide +kernel
theorem g23_1 : m_get 23 1 = some (.getfield 25, 3) := by decide +kernel
theorem g23_4 : m_get 23 4 = some (.istore 4, 2) := by decide +kernel
theorem g23_6 : m_get 23 6 = some (.aload_n 0, 1) := by decide +kernel
theorem g23_7 : m_get 23 7 = some (.aload_n 1, 1) := by decide +kernel
theorem g23_8 : m_get 23 8 = some (.iload 4, 2) := by decide +kernel
theorem g23_10 : m_get 23 10 = some (.invokevirtual 56, 3) := by decide +kernel
theorem g23_13 : m_get 23 13 = some (.ifCond .ne 5, 3) := by decide +kernel
theorem g23_16 : m_get 23 16 = some (.iconst 0, 1) := by decide +kernel
theorem g23_17 : m_get 23 17 = some (.ireturn, 1) := by decide +kernel
theorem g23_18 : m_get 23 18 = some (.aload_n 1, 1) := by decide +kernel
theorem g23_19 : m_get 23 19 = some (.getfield 60, 3) := by decide +kernel
theorem g23_22 : m_get 23 22 = some (.istore 5, 2) := by decide +kernel
theorem g23_24 : m_get 23 24 = some (.iconst 0, 1) := by decide +kernel
theorem g23_25 : m_get 23 25 = some (.istore 6, 2) := by decide +kernel
theorem g23_27 : m_get 23 27 = some (.iload 6, 2) := by decide +kernel
theorem g23_29 : m_get 23 29 = some (.iload 4, 2) := by decide +kernel
theorem g23_31 : m_get 23 31 = some (.invokestatic 63, 3) := by decide +kernel
theorem g23_34 : m_get 23 34 = some (.if_icmp .ge 63, 3) := by decide +kernel
theorem g23_37 : m_get 23 37 = some (.aload_n 0, 1) := by decide +kernel
theorem g23_38 : m_get 23 38 = some (.aload_n 2, 1) := by decide +kernel
theorem g23_39 : m_get 23 39 = some (.iload_n 3, 1) := by decide +kernel
theorem g23_40 : m_get 23 40 = some (.invokevirtual 21, 3) := by decide +kernel
theorem g23_43 : m_get 23 43 = some (.aload_n 0, 1) := by decide +kernel
theorem g23_44 : m_get 23 44 = some (.getfield 25, 3) := by decide +kernel
theorem g23_47 : m_get 23 47 = some (.bipush (-2), 2) := by decide +kernel
theorem g23_49 : m_get 23 49 = some (.if_icmp .ne 29, 3) := by decide +kernel
theorem g23_52 : m_get 23 52 = some (.aload_n 0, 1) := by decide +kernel
theorem g23_53 : m_get 23 53 = some (.getfield 67, 3) := by decide +kernel
theorem g23_56 : m_get 23 56 = some (.iload 4, 2) := by decide +kernel
theorem g23_58 : m_get 23 58 = some (.invokestatic 70, 3) := by decide +kernel
theorem g23_61 : m_get 23 61 = some (.if_icmp .lt 17, 3) := by decide +kernel
theorem g23_64 : m_get 23 64 = some (.aload_n 0, 1) := by decide +kernel
theorem g23_65 : m_get 23 65 = some (.getfield 67, 3) := by decide +kernel
theorem g23_68 : m_get 23 68 = some (.iload 4, 2) := by decide +kernel
theorem g23_70 : m_get 23 70 = some (.iload 6, 2) := by decide +kernel
theorem g23_72 : m_get 23 72 = some (.invokestatic 73, 3) := by decide +kernel
theorem g23_75 : m_get 23 75 = some (.if_icmp .le 5, 3) := by decide +kernel
theorem g23_78 : m_get 23 78 = some (.iconst 0, 1) := by decide +kernel
theorem g23_79 : m_get 23 79 = some (.ireturn, 1) := by decide +kernel
theorem g23_80 : m_get 23 80 = some (.aload_n 0, 1) := by decide +kernel
theorem g23_81 : m_get 23 81 = some (.aload_n 1, 1) := by decide +kernel
theorem g23_82 : m_get 23 82 = some (.iload 4, 2) := by decide +kernel
theorem g23_84 : m_get 23 84 = some (.iload 5, 2) := by decide +kernel
theorem g23_86 : m_get 23 86 = some (.iload 6, 2) := by decide +kernel
theorem g23_88 : m_get 23 88 = some (.invokevirtual 76, 3) := by decide +kernel
theorem g23_91 : m_get 23 91 = some (.iinc 6 1, 3) := by decide +kernel
theorem g23_94 : m_get 23 94 = some (.goto (-67), 3) := by decide +kernel
theorem g23_97 : m_get 23 97 = some (.aload_n 0, 1) := by decide +kernel
theorem g23_98 : m_get 23 98 = some (.aload_n 2, 1) := by decide +kernel
theorem g23_99 : m_get 23 99 = some (.iload_n 3, 1) := by decide +kernel
theorem g23_100 : m_get 23 100 = some (.invokevirtual 21, 3) := by decide +kernel
theorem g23_103 : m_get 23 103 = some (.aload_n 0, 1) := by decide +kernel
theorem g23_104 : m_get 23 104 = some (.getfield 25, 3) := by decide +kernel
theorem g23_107 : m_get 23 107 = some (.bipush 59, 2) := by decide +kernel
theorem g23_109 : m_get 23 109 = some (.if_icmp .eq 5, 3) := by decide +kernel
theorem g23_112 : m_get 23 112 = some (.iconst 0, 1) := by decide +kernel
theorem g23_113 : m_get 23 113 = some (.ireturn, 1) := by decide +kernel
theorem g23_114 : m_get 23 114 = some (.iload 4, 2) := by decide +kernel
theorem g23_116 : m_get 23 116 = some (.bipush 107, 2) := by decide +kernel
theorem g23_118 : m_get 23 118 = some (.if_icmp .ne 11, 3) := by decide +kernel
theorem g23_121 : m_get 23 121 = some (.aload_n 1, 1) := by decide +kernel
theorem g23_122 : m_get 23 122 = some (.iload 5, 2) := by decide +kernel
theorem g23_124 : m_get 23 124 = some (.iconst 1, 1) := by decide +kernel
theorem g23_125 : m_get 23 125 = some (.iadd, 1) := by decide +kernel
theorem g23_126 : m_get 23 126 = some (.putfield 60, 3) := by decide +kernel
theorem g23_129 : m_get 23 129 = some (.iconst 1, 1) := by decide +kernel
theorem g23_130 : m_get 23 130 = some (.ireturn, 1) := by decide +kernel
theorem f23_25 : m_fl (m_own 23) 25 = some (3, 2) := by decide +kernel
theorem f23_60 : m_fl (m_own 23) 60 = some (4, 0) := by decide +kernel
theorem f23_67 : m_fl (m_own 23) 67 = some (3, 3) := by decide +kernel
theorem k23_21 : m_ml (m_own 23) 21 = some (0, 30) := by decide +kernel
theorem k23_56 : m_ml (m_own 23) 56 = some (0, 24) := by decide +kernel
theorem k23_63 : m_ml (m_own 23) 63 = some (1, 25) := by decide +kernel
theorem k23_70 : m_ml (m_own 23) 70 = some (1, 26) := by decide +kernel
theorem k23_73 : m_ml (m_own 23) 73 = some (1, 27) := by decide +kernel
theorem k23_76 : m_ml (m_own 23) 76 = some (0, 28) := by decide +kernel
theorem g24_0 : m_get 24 0 = some (.iload_n 2, 1) := by decide +kernel
theorem g24_1 : m_get 24 1 = some (.lookupswitch 153 #[(101, 90), (107, 51), (109, 111), (115, 132), (119, 69)], 51) := by decide +kernel
theorem g24_52 : m_get 24 52 = some (.aload_n 1, 1) := by decide +kernel
theorem g24_53 : m_get 24 53 = some (.getfield 60, 3) := by decide +kernel
theorem g24_56 : m_get 24 56 = some (.bipush 6, 2) := by decide +kernel
theorem g24_58 : m_get 24 58 = some (.if_icmp .ge 7, 3) := by decide +kernel
theorem g24_61 : m_get 24 61 = some (.iconst 1, 1) := by decide +kernel
theorem g24_62 : m_get 24 62 = some (.goto 4, 3) := by decide +kernel
theorem g24_65 : m_get 24 65 = some (.iconst 0, 1) := by decide +kernel
theorem g24_66 : m_get 24 66 = some (.istore_n 3, 1) := by decide +kernel
theorem g24_67 : m_get 24 67 = some (.goto 89, 3) := by decide +kernel
theorem g24_70 : m_get 24 70 = some (.aload_n 0, 1) := by decide +kernel
theorem g24_71 : m_get 24 71 = some (.getfield 43, 3) := by decide +kernel
theorem g24_74 : m_get 24 74 = some (.ifCond .ne 7, 3) := by decide +kernel
theorem g24_77 : m_get 24 77 = some (.iconst 1, 1) := by decide +kernel
theorem g24_78 : m_get 24 78 = some (.goto 4, 3) := by decide +kernel
theorem g24_81 : m_get 24 81 = some (.iconst 0, 1) := by decide +kernel
theorem g24_82 : m_get 24 82 = some (.istore_n 3, 1) := by decide +kernel
theorem g24_83 : m_get 24 83 = some (.aload_n 0, 1) := by decide +kernel
theorem g24_84 : m_get 24 84 = some (.iconst 1, 1) := by decide +kernel
theorem g24_85 : m_get 24 85 = some (.putfield 43, 3) := by decide +kernel
theorem g24_88 : m_get 24 88 = some (.goto 68, 3) := by decide +kernel
theorem g24_91 : m_get 24 91 = some (.aload_n 0, 1) := by decide +kernel
theorem g24_92 : m_get 24 92 = some (.getfield 47, 3) := by decide +kernel
theorem g24_95 : m_get 24 95 = some (.ifCond .ne 7, 3) := by decide +kernel
theorem g24_98 : m_get 24 98 = some (.iconst 1, 1) := by decide +kernel
theorem g24_99 : m_get 24 99 = some (.goto 4, 3) := by decide +kernel
theorem g24_102 : m_get 24 102 = some (.iconst 0, 1) := by decide +kernel
theorem g24_103 : m_get 24 103 = some (.istore_n 3, 1) := by decide +kernel
theorem g24_104 : m_get 24 104 = some (.aload_n 0, 1) := by decide +kernel
theorem g24_105 : m_get 24 105 = some (.iconst 1, 1) := by decide +kernel
theorem g24_106 : m_get 24 106 = some (.putfield 47, 3) := by decide +kernel
theorem g24_109 : m_get 24 109 = some (.goto 47, 3) := by decide +kernel
theorem g24_112 : m_get 24 112 = some (.aload_n 0, 1) := by decide +kernel
theorem g24_113 : m_get 24 113 = some (.getfield 50, 3) := by decide +kernel
theorem g24_116 : m_get 24 116 = some (.ifCond .ne 7, 3) := by decide +kernel
theorem g24_119 : m_get 24 119 = some (.iconst 1, 1) := by decide +kernel
theorem g24_120 : m_get 24 120 = some (.goto 4, 3) := by decide +kernel
theorem g24_123 : m_get 24 123 = some (.iconst 0, 1) := by decide +kernel
theorem g24_124 : m_get 24 124 = some (.istore_n 3, 1) := by decide +kernel
theorem g24_125 : m_get 24 125 = some (.aload_n 0, 1) := by decide +kernel
theorem g24_126 : m_get 24 126 = some (.iconst 1, 1) := by decide +kernel
theorem g24_127 : m_get 24 127 = some (.putfield 50, 3) := by decide +kernel
theorem g24_130 : m_get 24 130 = some (.goto 26, 3) := by decide +kernel
theorem g24_133 : m_get 24 133 = some (.aload_n 0, 1) := by decide +kernel
theorem g24_134 : m_get 24 134 = some (.getfield 53, 3) := by decide +kernel
theorem g24_137 : m_get 24 137 = some (.ifCond .ne 7, 3) := by decide +kernel
theorem g24_140 : m_get 24 140 = some (.iconst 1, 1) := by decide +kernel
theorem g24_141 : m_get 24 141 = some (.goto 4, 3) := by decide +kernel
theorem g24_144 : m_get 24 144 = some (.iconst 0, 1) := by decide +kernel
theorem g24_145 : m_get 24 145 = some (.istore_n 3, 1) := by decide +kernel
theorem g24_146 : m_get 24 146 = some (.aload_n 0, 1) := by decide +kernel
theorem g24_147 : m_get 24 147 = some (.iconst 1, 1) := by decide +kernel
theorem g24_148 : m_get 24 148 = some (.putfield 53, 3) := by decide +kernel
theorem g24_151 : m_get 24 151 = some (.goto 5, 3) := by decide +kernel
theorem g24_154 : m_get 24 154 = some (.iconst 0, 1) := by decide +kernel
theorem g24_155 : m_get 24 155 = some (.istore_n 3, 1) := by decide +kernel
theorem g24_156 : m_get 24 156 = some (.iload_n 3, 1) := by decide +kernel
theorem g24_157 : m_get 24 157 = some (.ireturn, 1) := by decide +kernel
theorem f24_43 : m_fl (m_own 24) 43 = some (3, 4) := by decide +kernel
theorem f24_47 : m_fl (m_own 24) 47 = some (3, 5) := by decide +kernel
theorem f24_50 : m_fl (m_own 24) 50 = some (3, 6) := by decide +kernel
theorem f24_53 : m_fl (m_own 24) 53 = some (3, 7) := by decide +kernel
theorem f24_60 : m_fl (m_own 24) 60 = some (4, 0) := by decide +kernel
theorem g26_0 : m_get 26 0 = some (.iload_n 0, 1) := by decide +kernel
theorem g26_1 : m_get 26 1 = some (.bipush 107, 2) := by decide +kernel
theorem g26_3 : m_get 26 3 = some (.if_icmp .eq 9, 3) := by decide +kernel
theorem g26_6 : m_get 26 6 = some (.iload_n 0, 1) := by decide +kernel
theorem g26_7 : m_get 26 7 = some (.bipush 101, 2) := by decide +kernel
theorem g26_9 : m_get 26 9 = some (.if_icmp .ne 7, 3) := by decide +kernel
theorem g26_12 : m_get 26 12 = some (.iconst 0, 1) := by decide +kernel
theorem g26_13 : m_get 26 13 = some (.goto 4, 3) := by decide +kernel
theorem g26_16 : m_get 26 16 = some (.iconst 1, 1) := by decide +kernel
theorem g26_17 : m_get 26 17 = some (.ireturn, 1) := by decide +kernel
theorem g28_0 : m_get 28 0 = some (.iload_n 2, 1) := by decide +kernel
theorem g28_1 : m_get 28 1 = some (.lookupswitch 103 #[(101, 81), (107, 43), (109, 92), (119, 54)], 43) := by decide +kernel
theorem g28_44 : m_get 28 44 = some (.aload_n 0, 1) := by decide +kernel
theorem g28_45 : m_get 28 45 = some (.aload_n 1, 1) := by decide +kernel
theorem g28_46 : m_get 28 46 = some (.iload_n 3, 1) := by decide +kernel
theorem g28_47 : m_get 28 47 = some (.iload 4, 2) := by decide +kernel
theorem g28_49 : m_get 28 49 = some (.invokevirtual 84, 3) := by decide +kernel
theorem g28_52 : m_get 28 52 = some (.goto 76, 3) := by decide +kernel
theorem g28_55 : m_get 28 55 = some (.iload 4, 2) := by decide +kernel
theorem g28_57 : m_get 28 57 = some (.ifCond .ne 14, 3) := by decide +kernel
theorem g28_60 : m_get 28 60 = some (.aload_n 1, 1) := by decide +kernel
theorem g28_61 : m_get 28 61 = some (.aload_n 0, 1) := by decide +kernel
theorem g28_62 : m_get 28 62 = some (.getfield 67, 3) := by decide +kernel
theorem g28_65 : m_get 28 65 = some (.putfield 88, 3) := by decide +kernel
theorem g28_68 : m_get 28 68 = some (.goto 60, 3) := by decide +kernel
theorem g28_71 : m_get 28 71 = some (.aload_n 1, 1) := by decide +kernel
theorem g28_72 : m_get 28 72 = some (.aload_n 0, 1) := by decide +kernel
theorem g28_73 : m_get 28 73 = some (.getfield 67, 3) := by decide +kernel
theorem g28_76 : m_get 28 76 = some (.putfield 91, 3) := by decide +kernel
theorem g28_79 : m_get 28 79 = some (.goto 49, 3) := by decide +kernel
theorem g28_82 : m_get 28 82 = some (.aload_n 1, 1) := by decide +kernel
theorem g28_83 : m_get 28 83 = some (.aload_n 0, 1) := by decide +kernel
theorem g28_84 : m_get 28 84 = some (.getfield 67, 3) := by decide +kernel
theorem g28_87 : m_get 28 87 = some (.putfield 94, 3) := by decide +kernel
theorem g28_90 : m_get 28 90 = some (.goto 38, 3) := by decide +kernel
theorem g28_93 : m_get 28 93 = some (.aload_n 1, 1) := by decide +kernel
theorem g28_94 : m_get 28 94 = some (.aload_n 0, 1) := by decide +kernel
theorem g28_95 : m_get 28 95 = some (.getfield 67, 3) := by decide +kernel
theorem g28_98 : m_get 28 98 = some (.putfield 97, 3) := by decide +kernel
theorem g28_101 : m_get 28 101 = some (.goto 27, 3) := by decide +kernel
theorem g28_104 : m_get 28 104 = some (.iload 4, 2) := by decide +kernel
theorem g28_106 : m_get 28 106 = some (.ifCond .ne 14, 3) := by decide +kernel
theorem g28_109 : m_get 28 109 = some (.aload_n 1, 1) := by decide +kernel
theorem g28_110 : m_get 28 110 = some (.aload_n 0, 1) := by decide +kernel
theorem g28_111 : m_get 28 111 = some (.getfield 67, 3) := by decide +kernel
theorem g28_114 : m_get 28 114 = some (.putfield 100, 3) := by decide +kernel
theorem g28_117 : m_get 28 117 = some (.goto 11, 3) := by decide +kernel
theorem g28_120 : m_get 28 120 = some (.aload_n 1, 1) := by decide +kernel
theorem g28_121 : m_get 28 121 = some (.aload_n 0, 1) := by decide +kernel
theorem g28_122 : m_get 28 122 = some (.getfield 67, 3) := by decide +kernel
theorem g28_125 : m_get 28 125 = some (.putfield 103, 3) := by decide +kernel
theorem g28_128 : m_get 28 128 = some (.return_, 1) := by decide +kernel
theorem f28_67 : m_fl (m_own 28) 67 = some (3, 3) := by decide +kernel
theorem f28_88 : m_fl (m_own 28) 88 = some (4, 1) := by decide +kernel
theorem f28_91 : m_fl (m_own 28) 91 = some (4, 2) := by decide +kernel
theorem f28_94 : m_fl (m_own 28) 94 = some (4, 3) := by decide +kernel
theorem f28_97 : m_fl (m_own 28) 97 = some (4, 4) := by decide +kernel
theorem f28_100 : m_fl (m_own 28) 100 = some (4, 5) := by decide +kernel
theorem f28_103 : m_fl (m_own 28) 103 = some (4, 6) := by decide +kernel
theorem k28_84 : m_ml (m_own 28) 84 = some (0, 29) := by decide +kernel
theorem g29_0 : m_get 29 0 = some (.iload_n 2, 1) := by decide +kernel
theorem g29_1 : m_get 29 1 = some (.ifCond .lt 13, 3) := by decide +kernel
theorem g29_4 : m_get 29 4 = some (.iload_n 2, 1) := by decide +kernel
theorem g29_5 : m_get 29 5 = some (.bipush 6, 2) := by decide +kernel
theorem g29_7 : m_get 29 7 = some (.if_icmp .ge 7, 3) := by decide +kernel
theorem g29_10 : m_get 29 10 = some (.iload_n 3, 1) := by decide +kernel
theorem g29_11 : m_get 29 11 = some (.ifCond .ge 4, 3) := by decide +kernel
theorem g29_14 : m_get 29 14 = some (.return_, 1) := by decide +kernel
theorem g29_15 : m_get 29 15 = some (.iload_n 3, 1) := by decide +kernel
theorem g29_16 : m_get 29 16 = some (.iconst 4, 1) := by decide +kernel
theorem g29_17 : m_get 29 17 = some (.if_icmp .ge 20, 3) := by decide +kernel
theorem g29_20 : m_get 29 20 = some (.aload_n 1, 1) := by decide +kernel
theorem g29_21 : m_get 29 21 = some (.getfield 106, 3) := by decide +kernel
theorem g29_24 : m_get 29 24 = some (.iload_n 2, 1) := by decide +kernel
theorem g29_25 : m_get 29 25 = some (.iconst 4, 1) := by decide +kernel
theorem g29_26 : m_get 29 26 = some (.imul, 1) := by decide +kernel
theorem g29_27 : m_get 29 27 = some (.iload_n 3, 1) := by decide +kernel
theorem g29_28 : m_get 29 28 = some (.iadd, 1) := by decide +kernel
theorem g29_29 : m_get 29 29 = some (.aload_n 0, 1) := by decide +kernel
theorem g29_30 : m_get 29 30 = some (.getfield 67, 3) := by decide +kernel
theorem g29_33 : m_get 29 33 = some (.iastore, 1) := by decide +kernel
theorem g29_34 : m_get 29 34 = some (.goto 31, 3) := by decide +kernel
theorem g29_37 : m_get 29 37 = some (.iload_n 3, 1) := by decide +kernel
theorem g29_38 : m_get 29 38 = some (.iconst 4, 1) := by decide +kernel
theorem g29_39 : m_get 29 39 = some (.if_icmp .ne 16, 3) := by decide +kernel
theorem g29_42 : m_get 29 42 = some (.aload_n 1, 1) := by decide +kernel
theorem g29_43 : m_get 29 43 = some (.getfield 109, 3) := by decide +kernel
theorem g29_46 : m_get 29 46 = some (.iload_n 2, 1) := by decide +kernel
theorem g29_47 : m_get 29 47 = some (.aload_n 0, 1) := by decide +kernel
theorem g29_48 : m_get 29 48 = some (.getfield 67, 3) := by decide +kernel
theorem g29_51 : m_get 29 51 = some (.iastore, 1) := by decide +kernel
theorem g29_52 : m_get 29 52 = some (.goto 13, 3) := by decide +kernel
theorem g29_55 : m_get 29 55 = some (.aload_n 1, 1) := by decide +kernel
theorem g29_56 : m_get 29 56 = some (.getfield 112, 3) := by decide +kernel
theorem g29_59 : m_get 29 59 = some (.iload_n 2, 1) := by decide +kernel
theorem g29_60 : m_get 29 60 = some (.aload_n 0, 1) := by decide +kernel
theorem g29_61 : m_get 29 61 = some (.getfield 67, 3) := by decide +kernel
theorem g29_64 : m_get 29 64 = some (.iastore, 1) := by decide +kernel
theorem g29_65 : m_get 29 65 = some (.return_, 1) := by decide +kernel
theorem f29_67 : m_fl (m_own 29) 67 = some (3, 3) := by decide +kernel
theorem f29_106 : m_fl (m_own 29) 106 = some (4, 7) := by decide +kernel
theorem f29_109 : m_fl (m_own 29) 109 = some (4, 8) := by decide +kernel
theorem f29_112 : m_fl (m_own 29) 112 = some (4, 9) := by decide +kernel
theorem g30_0 : m_get 30 0 = some (.aload_n 0, 1) := by decide +kernel
theorem g30_1 : m_get 30 1 = some (.getfield 40, 3) := by decide +kernel
theorem g30_4 : m_get 30 4 = some (.iload_n 2, 1) := by decide +kernel
theorem g30_5 : m_get 30 5 = some (.if_icmp .ge 27, 3) := by decide +kernel
theorem g30_8 : m_get 30 8 = some (.aload_n 1, 1) := by decide +kernel
theorem g30_9 : m_get 30 9 = some (.aload_n 0, 1) := by decide +kernel
theorem g30_10 : m_get 30 10 = some (.getfield 40, 3) := by decide +kernel
theorem g30_13 : m_get 30 13 = some (.iaload, 1) := by decide +kernel
theorem g30_14 : m_get 30 14 = some (.bipush 32, 2) := by decide +kernel
theorem g30_16 : m_get 30 16 = some (.if_icmp .ne 16, 3) := by decide +kernel
theorem g30_19 : m_get 30 19 = some (.aload_n 0, 1) := by decide +kernel
theorem g30_20 : m_get 30 20 = some (.dup, 1) := by decide +kernel
theorem g30_21 : m_get 30 21 = some (.getfield 40, 3) := by decide +kernel
theorem g30_24 : m_get 30 24 = some (.iconst 1, 1) := by decide +kernel
theorem g30_25 : m_get 30 25 = some (.iadd, 1) := by decide +kernel
theorem g30_26 : m_get 30 26 = some (.putfield 40, 3) := by decide +kernel
theorem g30_29 : m_get 30 29 = some (.goto (-29), 3) := by decide +kernel
theorem g30_32 : m_get 30 32 = some (.aload_n 0, 1) := by decide +kernel
theorem g30_33 : m_get 30 33 = some (.aload_n 0, 1) := by decide +kernel
theorem g30_34 : m_get 30 34 = some (.getfield 40, 3) := by decide +kernel
theorem g30_37 : m_get 30 37 = some (.putfield 33, 3) := by decide +kernel
theorem g30_40 : m_get 30 40 = some (.aload_n 0, 1) := by decide +kernel
theorem g30_41 : m_get 30 41 = some (.getfield 40, 3) := by decide +kernel
theorem g30_44 : m_get 30 44 = some (.iload_n 2, 1) := by decide +kernel
theorem g30_45 : m_get 30 45 = some (.if_icmp .lt 9, 3) := by decide +kernel
theorem g30_48 : m_get 30 48 = some (.aload_n 0, 1) := by decide +kernel
theorem g30_49 : m_get 30 49 = some (.iconst (-1), 1) := by decide +kernel
theorem g30_50 : m_get 30 50 = some (.putfield 25, 3) := by decide +kernel
theorem g30_53 : m_get 30 53 = some (.return_, 1) := by decide +kernel
theorem g30_54 : m_get 30 54 = some (.aload_n 1, 1) := by decide +kernel
theorem g30_55 : m_get 30 55 = some (.aload_n 0, 1) := by decide +kernel
theorem g30_56 : m_get 30 56 = some (.getfield 40, 3) := by decide +kernel
theorem g30_59 : m_get 30 59 = some (.iaload, 1) := by decide +kernel
theorem g30_60 : m_get 30 60 = some (.istore_n 3, 1) := by decide +kernel
theorem g30_61 : m_get 30 61 = some (.iload_n 3, 1) := by decide +kernel
theorem g30_62 : m_get 30 62 = some (.invokestatic 115, 3) := by decide +kernel
theorem g30_65 : m_get 30 65 = some (.ifCond .eq 10, 3) := by decide +kernel
theorem g30_68 : m_get 30 68 = some (.aload_n 0, 1) := by decide +kernel
theorem g30_69 : m_get 30 69 = some (.aload_n 1, 1) := by decide +kernel
theorem g30_70 : m_get 30 70 = some (.iload_n 2, 1) := by decide +kernel
theorem g30_71 : m_get 30 71 = some (.invokevirtual 119, 3) := by decide +kernel
theorem g30_74 : m_get 30 74 = some (.return_, 1) := by decide +kernel
theorem g30_75 : m_get 30 75 = some (.aload_n 0, 1) := by decide +kernel
theorem g30_76 : m_get 30 76 = some (.dup, 1) := by decide +kernel
theorem g30_77 : m_get 30 77 = some (.getfield 40, 3) := by decide +kernel
theorem g30_80 : m_get 30 80 = some (.iconst 1, 1) := by decide +kernel
theorem g30_81 : m_get 30 81 = some (.iadd, 1) := by decide +kernel
theorem g30_82 : m_get 30 82 = some (.putfield 40, 3) := by decide +kernel
theorem g30_85 : m_get 30 85 = some (.aload_n 0, 1) := by decide +kernel
theorem g30_86 : m_get 30 86 = some (.iload_n 3, 1) := by decide +kernel
theorem g30_87 : m_get 30 87 = some (.invokestatic 122, 3) := by decide +kernel
theorem g30_90 : m_get 30 90 = some (.ifCond .eq 7, 3) := by decide +kernel
theorem g30_93 : m_get 30 93 = some (.iload_n 3, 1) := by decide +kernel
theorem g30_94 : m_get 30 94 = some (.goto 5, 3) := by decide +kernel
theorem g30_97 : m_get 30 97 = some (.bipush (-3), 2) := by decide +kernel
theorem g30_99 : m_get 30 99 = some (.putfield 25, 3) := by decide +kernel
theorem g30_102 : m_get 30 102 = some (.return_, 1) := by decide +kernel
theorem f30_25 : m_fl (m_own 30) 25 = some (3, 2) := by decide +kernel
theorem f30_33 : m_fl (m_own 30) 33 = some (3, 1) := by decide +kernel
theorem f30_40 : m_fl (m_own 30) 40 = some (3, 0) := by decide +kernel
theorem k30_115 : m_ml (m_own 30) 115 = some (1, 32) := by decide +kernel
theorem k30_119 : m_ml (m_own 30) 119 = some (0, 31) := by decide +kernel
theorem k30_122 : m_ml (m_own 30) 122 = some (1, 33) := by decide +kernel
theorem g31_0 : m_get 31 0 = some (.aload_n 0, 1) := by decide +kernel
theorem g31_1 : m_get 31 1 = some (.iconst 0, 1) := by decide +kernel
theorem g31_2 : m_get 31 2 = some (.putfield 67, 3) := by decide +kernel
theorem g31_5 : m_get 31 5 = some (.aload_n 0, 1) := by decide +kernel
theorem g31_6 : m_get 31 6 = some (.getfield 40, 3) := by decide +kernel
theorem g31_9 : m_get 31 9 = some (.iload_n 2, 1) := by decide +kernel
theorem g31_10 : m_get 31 10 = some (.if_icmp .ge 54, 3) := by decide +kernel
theorem g31_13 : m_get 31 13 = some (.aload_n 1, 1) := by decide +kernel
theorem g31_14 : m_get 31 14 = some (.aload_n 0, 1) := by decide +kernel
theorem g31_15 : m_get 31 15 = some (.getfield 40, 3) := by decide +kernel
theorem g31_18 : m_get 31 18 = some (.iaload, 1) := by decide +kernel
theorem g31_19 : m_get 31 19 = some (.invokestatic 115, 3) := by decide +kernel
theorem g31_22 : m_get 31 22 = some (.ifCond .eq 42, 3) := by decide +kernel
theorem g31_25 : m_get 31 25 = some (.aload_n 0, 1) := by decide +kernel
theorem g31_26 : m_get 31 26 = some (.aload_n 0, 1) := by decide +kernel
theorem g31_27 : m_get 31 27 = some (.getfield 67, 3) := by decide +kernel
theorem g31_30 : m_get 31 30 = some (.bipush 10, 2) := by decide +kernel
theorem g31_32 : m_get 31 32 = some (.imul, 1) := by decide +kernel
theorem g31_33 : m_get 31 33 = some (.aload_n 1, 1) := by decide +kernel
theorem g31_34 : m_get 31 34 = some (.aload_n 0, 1) := by decide +kernel
theorem g31_35 : m_get 31 35 = some (.getfield 40, 3) := by decide +kernel
theorem g31_38 : m_get 31 38 = some (.iaload, 1) := by decide +kernel
theorem g31_39 : m_get 31 39 = some (.iadd, 1) := by decide +kernel
theorem g31_40 : m_get 31 40 = some (.bipush 48, 2) := by decide +kernel
theorem g31_42 : m_get 31 42 = some (.isub, 1) := by decide +kernel
theorem g31_43 : m_get 31 43 = some (.bipush 100, 2) := by decide +kernel
theorem g31_45 : m_get 31 45 = some (.invokestatic 15, 3) := by decide +kernel
theorem g31_48 : m_get 31 48 = some (.putfield 67, 3) := by decide +kernel
theorem g31_51 : m_get 31 51 = some (.aload_n 0, 1) := by decide +kernel
theorem g31_52 : m_get 31 52 = some (.dup, 1) := by decide +kernel
theorem g31_53 : m_get 31 53 = some (.getfield 40, 3) := by decide +kernel
theorem g31_56 : m_get 31 56 = some (.iconst 1, 1) := by decide +kernel
theorem g31_57 : m_get 31 57 = some (.iadd, 1) := by decide +kernel
theorem g31_58 : m_get 31 58 = some (.putfield 40, 3) := by decide +kernel
theorem g31_61 : m_get 31 61 = some (.goto (-56), 3) := by decide +kernel
theorem g31_64 : m_get 31 64 = some (.aload_n 0, 1) := by decide +kernel
theorem g31_65 : m_get 31 65 = some (.getfield 40, 3) := by decide +kernel
theorem g31_68 : m_get 31 68 = some (.aload_n 0, 1) := by decide +kernel
theorem g31_69 : m_get 31 69 = some (.getfield 33, 3) := by decide +kernel
theorem g31_72 : m_get 31 72 = some (.isub, 1) := by decide +kernel
theorem g31_73 : m_get 31 73 = some (.iconst 1, 1) := by decide +kernel
theorem g31_74 : m_get 31 74 = some (.if_icmp .le 18, 3) := by decide +kernel
theorem g31_77 : m_get 31 77 = some (.aload_n 1, 1) := by decide +kernel
theorem g31_78 : m_get 31 78 = some (.aload_n 0, 1) := by decide +kernel
theorem g31_79 : m_get 31 79 = some (.getfield 33, 3) := by decide +kernel
theorem g31_82 : m_get 31 82 = some (.iaload, 1) := by decide +kernel
theorem g31_83 : m_get 31 83 = some (.bipush 48, 2) := by decide +kernel
theorem g31_85 : m_get 31 85 = some (.if_icmp .ne 7, 3) := by decide +kernel
theorem g31_88 : m_get 31 88 = some (.iconst 1, 1) := by decide +kernel
theorem g31_89 : m_get 31 89 = some (.goto 4, 3) := by decide +kernel
theorem g31_92 : m_get 31 92 = some (.iconst 0, 1) := by decide +kernel
theorem g31_93 : m_get 31 93 = some (.istore_n 3, 1) := by decide +kernel
theorem g31_94 : m_get 31 94 = some (.aload_n 0, 1) := by decide +kernel
theorem g31_95 : m_get 31 95 = some (.aload_n 0, 1) := by decide +kernel
theorem g31_96 : m_get 31 96 = some (.getfield 67, 3) := by decide +kernel
theorem g31_99 : m_get 31 99 = some (.bipush 99, 2) := by decide +kernel
theorem g31_101 : m_get 31 101 = some (.if_icmp .gt 7, 3) := by decide +kernel
theorem g31_104 : m_get 31 104 = some (.iload_n 3, 1) := by decide +kernel
theorem g31_105 : m_get 31 105 = some (.ifCond .eq 8, 3) := by decide +kernel
theorem g31_108 : m_get 31 108 = some (.bipush (-3), 2) := by decide +kernel
theorem g31_110 : m_get 31 110 = some (.goto 5, 3) := by decide +kernel
theorem g31_113 : m_get 31 113 = some (.bipush (-2), 2) := by decide +kernel
theorem g31_115 : m_get 31 115 = some (.putfield 25, 3) := by decide +kernel
theorem g31_118 : m_get 31 118 = some (.return_, 1) := by decide +kernel
theorem f31_25 : m_fl (m_own 31) 25 = some (3, 2) := by decide +kernel
theorem f31_33 : m_fl (m_own 31) 33 = some (3, 1) := by decide +kernel
theorem f31_40 : m_fl (m_own 31) 40 = some (3, 0) := by decide +kernel
theorem f31_67 : m_fl (m_own 31) 67 = some (3, 3) := by decide +kernel
theorem k31_15 : m_ml (m_own 31) 15 = some (8, 0) := by decide +kernel
theorem k31_115 : m_ml (m_own 31) 115 = some (1, 32) := by decide +kernel
theorem g32_0 : m_get 32 0 = some (.iload_n 0, 1) := by decide +kernel
theorem g32_1 : m_get 32 1 = some (.bipush 48, 2) := by decide +kernel
theorem g32_3 : m_get 32 3 = some (.if_icmp .lt 13, 3) := by decide +kernel
theorem g32_6 : m_get 32 6 = some (.iload_n 0, 1) := by decide +kernel
theorem g32_7 : m_get 32 7 = some (.bipush 57, 2) := by decide +kernel
theorem g32_9 : m_get 32 9 = some (.if_icmp .gt 7, 3) := by decide +kernel
theorem g32_12 : m_get 32 12 = some (.iconst 1, 1) := by decide +kernel
theorem g32_13 : m_get 32 13 = some (.goto 4, 3) := by decide +kernel
theorem g32_16 : m_get 32 16 = some (.iconst 0, 1) := by decide +kernel
theorem g32_17 : m_get 32 17 = some (.ireturn, 1) := by decide +kernel
theorem g33_0 : m_get 33 0 = some (.iload_n 0, 1) := by decide +kernel
theorem g33_1 : m_get 33 1 = some (.bipush 107, 2) := by decide +kernel
theorem g33_3 : m_get 33 3 = some (.if_icmp .eq 33, 3) := by decide +kernel
theorem g33_6 : m_get 33 6 = some (.iload_n 0, 1) := by decide +kernel
theorem g33_7 : m_get 33 7 = some (.bipush 119, 2) := by decide +kernel
theorem g33_9 : m_get 33 9 = some (.if_icmp .eq 27, 3) := by decide +kernel
theorem g33_12 : m_get 33 12 = some (.iload_n 0, 1) := by decide +kernel
theorem g33_13 : m_get 33 13 = some (.bipush 101, 2) := by decide +kernel
theorem g33_15 : m_get 33 15 = some (.if_icmp .eq 21, 3) := by decide +kernel
theorem g33_18 : m_get 33 18 = some (.iload_n 0, 1) := by decide +kernel
theorem g33_19 : m_get 33 19 = some (.bipush 109, 2) := by decide +kernel
theorem g33_21 : m_get 33 21 = some (.if_icmp .eq 15, 3) := by decide +kernel
theorem g33_24 : m_get 33 24 = some (.iload_n 0, 1) := by decide +kernel
theorem g33_25 : m_get 33 25 = some (.bipush 115, 2) := by decide +kernel
theorem g33_27 : m_get 33 27 = some (.if_icmp .eq 9, 3) := by decide +kernel
theorem g33_30 : m_get 33 30 = some (.iload_n 0, 1) := by decide +kernel
theorem g33_31 : m_get 33 31 = some (.bipush 59, 2) := by decide +kernel
theorem g33_33 : m_get 33 33 = some (.if_icmp .ne 7, 3) := by decide +kernel
theorem g33_36 : m_get 33 36 = some (.iconst 1, 1) := by decide +kernel
theorem g33_37 : m_get 33 37 = some (.goto 4, 3) := by decide +kernel
theorem g33_40 : m_get 33 40 = some (.iconst 0, 1) := by decide +kernel
theorem g33_41 : m_get 33 41 = some (.ireturn, 1) := by decide +kernel
theorem na0 : m_na 0 = 1 := rfl
theorem ow0 : m_own 0 = 0 := rfl
theorem rt0 : m_rt 0 = none := rfl
theorem na1 : m_na 1 = 2 := rfl
theorem ow1 : m_own 1 = 0 := rfl
theorem rt1 : m_rt 1 = some .int := rfl
theorem ro1 {v : Int} : m_rok 1 v = true := by simp [m_rok, rt1]
theorem na2 : m_na 2 = 2 := rfl
theorem ow2 : m_own 2 = 0 := rfl
theorem rt2 : m_rt 2 = none := rfl
theorem na3 : m_na 3 = 1 := rfl
theorem ow3 : m_own 3 = 0 := rfl
theorem rt3 : m_rt 3 = none := rfl
theorem na4 : m_na 4 = 3 := rfl
theorem ow4 : m_own 4 = 0 := rfl
theorem rt4 : m_rt 4 = none := rfl
theorem na5 : m_na 5 = 5 := rfl
theorem ow5 : m_own 5 = 0 := rfl
theorem rt5 : m_rt 5 = none := rfl
theorem na6 : m_na 6 = 3 := rfl
theorem ow6 : m_own 6 = 0 := rfl
theorem rt6 : m_rt 6 = some .int := rfl
theorem ro6 {v : Int} : m_rok 6 v = true := by simp [m_rok, rt6]
theorem na7 : m_na 7 = 1 := rfl
theorem ow7 : m_own 7 = 1 := rfl
theorem rt7 : m_rt 7 = none := rfl
theorem na8 : m_na 8 = 5 := rfl
theorem ow8 : m_own 8 = 1 := rfl
theorem rt8 : m_rt 8 = some .int := rfl
theorem ro8 {v : Int} : m_rok 8 v = true := by simp [m_rok, rt8]
theorem na9 : m_na 9 = 3 := rfl
theorem ow9 : m_own 9 = 1 := rfl
theorem rt9 : m_rt 9 = none := rfl
theorem na10 : m_na 10 = 4 := rfl
theorem ow10 : m_own 10 = 1 := rfl
theorem rt10 : m_rt 10 = none := rfl
theorem na11 : m_na 11 = 2 := rfl
theorem ow11 : m_own 11 = 1 := rfl
theorem rt11 : m_rt 11 = some .int := rfl
theorem ro11 {v : Int} : m_rok 11 v = true := by simp [m_rok, rt11]
theorem na12 : m_na 12 = 3 := rfl
theorem ow12 : m_own 12 = 1 := rfl
theorem rt12 : m_rt 12 = some .int := rfl
theorem ro12 {v : Int} : m_rok 12 v = true := by simp [m_rok, rt12]
theorem na13 : m_na 13 = 1 := rfl
theorem ow13 : m_own 13 = 2 := rfl
theorem rt13 : m_rt 13 = none := rfl
theorem na14 : m_na 14 = 2 := rfl
theorem ow14 : m_own 14 = 2 := rfl
theorem rt14 : m_rt 14 = none := rfl
theorem na15 : m_na 15 = 2 := rfl
theorem ow15 : m_own 15 = 2 := rfl
theorem rt15 : m_rt 15 = none := rfl
theorem na16 : m_na 16 = 1 := rfl
theorem ow16 : m_own 16 = 2 := rfl
theorem rt16 : m_rt 16 = none := rfl
theorem na17 : m_na 17 = 2 := rfl
theorem ow17 : m_own 17 = 2 := rfl
theorem rt17 : m_rt 17 = some .boolean := rfl
theorem ro17 {v : Int} (h : v = 0 ∨ v = 1) : m_rok 17 v = true := by rcases h with rfl | rfl <;> rfl
theorem na18 : m_na 18 = 2 := rfl
theorem ow18 : m_own 18 = 2 := rfl
theorem rt18 : m_rt 18 = some .int := rfl
theorem ro18 {v : Int} : m_rok 18 v = true := by simp [m_rok, rt18]
theorem na19 : m_na 19 = 3 := rfl
theorem ow19 : m_own 19 = 2 := rfl
theorem rt19 : m_rt 19 = some .int := rfl
theorem ro19 {v : Int} : m_rok 19 v = true := by simp [m_rok, rt19]
theorem na20 : m_na 20 = 1 := rfl
theorem ow20 : m_own 20 = 3 := rfl
theorem rt20 : m_rt 20 = none := rfl
theorem na21 : m_na 21 = 4 := rfl
theorem ow21 : m_own 21 = 3 := rfl
theorem rt21 : m_rt 21 = some .int := rfl
theorem ro21 {v : Int} : m_rok 21 v = true := by simp [m_rok, rt21]
theorem na22 : m_na 22 = 2 := rfl
theorem ow22 : m_own 22 = 3 := rfl
theorem rt22 : m_rt 22 = none := rfl
theorem na23 : m_na 23 = 4 := rfl
theorem ow23 : m_own 23 = 3 := rfl
theorem rt23 : m_rt 23 = some .boolean := rfl
theorem ro23 {v : Int} (h : v = 0 ∨ v = 1) : m_rok 23 v = true := by rcases h with rfl | rfl <;> rfl
theorem na24 : m_na 24 = 3 := rfl
theorem ow24 : m_own 24 = 3 := rfl
theorem rt24 : m_rt 24 = some .boolean := rfl
theorem ro24 {v : Int} (h : v = 0 ∨ v = 1) : m_rok 24 v = true := by rcases h with rfl | rfl <;> rfl
theorem na25 : m_na 25 = 1 := rfl
theorem ow25 : m_own 25 = 3 := rfl
theorem rt25 : m_rt 25 = some .int := rfl
theorem ro25 {v : Int} : m_rok 25 v = true := by simp [m_rok, rt25]
theorem na26 : m_na 26 = 1 := rfl
theorem ow26 : m_own 26 = 3 := rfl
theorem rt26 : m_rt 26 = some .int := rfl
theorem ro26 {v : Int} : m_rok 26 v = true := by simp [m_rok, rt26]
theorem na27 : m_na 27 = 2 := rfl
theorem ow27 : m_own 27 = 3 := rfl
theorem rt27 : m_rt 27 = some .int := rfl
theorem ro27 {v : Int} : m_rok 27 v = true := by simp [m_rok, rt27]
theorem na28 : m_na 28 = 5 := rfl
theorem ow28 : m_own 28 = 3 := rfl
theorem rt28 : m_rt 28 = none := rfl
theorem na29 : m_na 29 = 4 := rfl
theorem ow29 : m_own 29 = 3 := rfl
theorem rt29 : m_rt 29 = none := rfl
theorem na30 : m_na 30 = 3 := rfl
theorem ow30 : m_own 30 = 3 := rfl
theorem rt30 : m_rt 30 = none := rfl
theorem na31 : m_na 31 = 3 := rfl
theorem ow31 : m_own 31 = 3 := rfl
theorem rt31 : m_rt 31 = none := rfl
theorem na32 : m_na 32 = 1 := rfl
theorem ow32 : m_own 32 = 3 := rfl
theorem rt32 : m_rt 32 = some .boolean := rfl
theorem ro32 {v : Int} (h : v = 0 ∨ v = 1) : m_rok 32 v = true := by rcases h with rfl | rfl <;> rfl
theorem na33 : m_na 33 = 1 := rfl
theorem ow33 : m_own 33 = 3 := rfl
theorem rt33 : m_rt 33 = some .boolean := rfl
theorem ro33 {v : Int} (h : v = 0 ∨ v = 1) : m_rok 33 v = true := by rcases h with rfl | rfl <;> rfl
theorem na34 : m_na 34 = 1 := rfl
theorem ow34 : m_own 34 = 4 := rfl
theorem rt34 : m_rt 34 = none := rfl
theorem na35 : m_na 35 = 1 := rfl
theorem ow35 : m_own 35 = 4 := rfl
theorem rt35 : m_rt 35 = none := rfl
theorem na36 : m_na 36 = 1 := rfl
theorem ow36 : m_own 36 = 4 := rfl
theorem rt36 : m_rt 36 = some .int := rfl
theorem ro36 {v : Int} : m_rok 36 v = true := by simp [m_rok, rt36]
theorem na37 : m_na 37 = 3 := rfl
theorem ow37 : m_own 37 = 4 := rfl
theorem rt37 : m_rt 37 = some .int := rfl
theorem ro37 {v : Int} : m_rok 37 v = true := by simp [m_rok, rt37]
theorem na38 : m_na 38 = 2 := rfl
theorem ow38 : m_own 38 = 4 := rfl
theorem rt38 : m_rt 38 = some .boolean := rfl
theorem ro38 {v : Int} (h : v = 0 ∨ v = 1) : m_rok 38 v = true := by rcases h with rfl | rfl <;> rfl
theorem na39 : m_na 39 = 3 := rfl
theorem ow39 : m_own 39 = 4 := rfl
theorem rt39 : m_rt 39 = some .boolean := rfl
theorem ro39 {v : Int} (h : v = 0 ∨ v = 1) : m_rok 39 v = true := by rcases h with rfl | rfl <;> rfl
theorem na40 : m_na 40 = 1 := rfl
theorem ow40 : m_own 40 = 4 := rfl
theorem rt40 : m_rt 40 = none := rfl
theorem na41 : m_na 41 = 3 := rfl
theorem ow41 : m_own 41 = 4 := rfl
theorem rt41 : m_rt 41 = some .int := rfl
theorem ro41 {v : Int} : m_rok 41 v = true := by simp [m_rok, rt41]
theorem na42 : m_na 42 = 3 := rfl
theorem ow42 : m_own 42 = 4 := rfl
theorem rt42 : m_rt 42 = some .int := rfl
theorem ro42 {v : Int} : m_rok 42 v = true := by simp [m_rok, rt42]
theorem na43 : m_na 43 = 2 := rfl
theorem ow43 : m_own 43 = 4 := rfl
theorem rt43 : m_rt 43 = some .boolean := rfl
theorem ro43 {v : Int} (h : v = 0 ∨ v = 1) : m_rok 43 v = true := by rcases h with rfl | rfl <;> rfl
theorem na44 : m_na 44 = 1 := rfl
theorem ow44 : m_own 44 = 4 := rfl
theorem rt44 : m_rt 44 = some .int := rfl
theorem ro44 {v : Int} : m_rok 44 v = true := by simp [m_rok, rt44]
theorem na45 : m_na 45 = 2 := rfl
theorem ow45 : m_own 45 = 4 := rfl
theorem rt45 : m_rt 45 = some .int := rfl
theorem ro45 {v : Int} : m_rok 45 v = true := by simp [m_rok, rt45]
theorem na46 : m_na 46 = 2 := rfl
theorem ow46 : m_own 46 = 4 := rfl
theorem rt46 : m_rt 46 = some .int := rfl
theorem ro46 {v : Int} : m_rok 46 v = true := by simp [m_rok, rt46]
theorem na47 : m_na 47 = 1 := rfl
theorem ow47 : m_own 47 = 5 := rfl
theorem rt47 : m_rt 47 = none := rfl
theorem na48 : m_na 48 = 3 := rfl
theorem ow48 : m_own 48 = 5 := rfl
theorem rt48 : m_rt 48 = none := rfl
theorem na49 : m_na 49 = 3 := rfl
theorem ow49 : m_own 49 = 5 := rfl
theorem rt49 : m_rt 49 = none := rfl
theorem na50 : m_na 50 = 2 := rfl
theorem ow50 : m_own 50 = 5 := rfl
theorem rt50 : m_rt 50 = some .int := rfl
theorem ro50 {v : Int} : m_rok 50 v = true := by simp [m_rok, rt50]
theorem na51 : m_na 51 = 3 := rfl
theorem ow51 : m_own 51 = 5 := rfl
theorem rt51 : m_rt 51 = some .int := rfl
theorem ro51 {v : Int} : m_rok 51 v = true := by simp [m_rok, rt51]
theorem na52 : m_na 52 = 4 := rfl
theorem ow52 : m_own 52 = 5 := rfl
theorem rt52 : m_rt 52 = some .int := rfl
theorem ro52 {v : Int} : m_rok 52 v = true := by simp [m_rok, rt52]
theorem na53 : m_na 53 = 3 := rfl
theorem ow53 : m_own 53 = 5 := rfl
theorem rt53 : m_rt 53 = some .int := rfl
theorem ro53 {v : Int} : m_rok 53 v = true := by simp [m_rok, rt53]
theorem na54 : m_na 54 = 1 := rfl
theorem ow54 : m_own 54 = 6 := rfl
theorem rt54 : m_rt 54 = none := rfl
theorem na55 : m_na 55 = 2 := rfl
theorem ow55 : m_own 55 = 6 := rfl
theorem rt55 : m_rt 55 = some .int := rfl
theorem ro55 {v : Int} : m_rok 55 v = true := by simp [m_rok, rt55]
theorem na56 : m_na 56 = 1 := rfl
theorem ow56 : m_own 56 = 6 := rfl
theorem rt56 : m_rt 56 = some .int := rfl
theorem ro56 {v : Int} : m_rok 56 v = true := by simp [m_rok, rt56]
theorem na57 : m_na 57 = 1 := rfl
theorem ow57 : m_own 57 = 6 := rfl
theorem rt57 : m_rt 57 = some .int := rfl
theorem ro57 {v : Int} : m_rok 57 v = true := by simp [m_rok, rt57]
theorem na58 : m_na 58 = 3 := rfl
theorem ow58 : m_own 58 = 6 := rfl
theorem rt58 : m_rt 58 = some .int := rfl
theorem ro58 {v : Int} : m_rok 58 v = true := by simp [m_rok, rt58]
theorem na59 : m_na 59 = 3 := rfl
theorem ow59 : m_own 59 = 6 := rfl
theorem rt59 : m_rt 59 = some .int := rfl
theorem ro59 {v : Int} : m_rok 59 v = true := by simp [m_rok, rt59]
theorem na60 : m_na 60 = 3 := rfl
theorem ow60 : m_own 60 = 6 := rfl
theorem rt60 : m_rt 60 = some .int := rfl
theorem ro60 {v : Int} : m_rok 60 v = true := by simp [m_rok, rt60]
theorem na61 : m_na 61 = 2 := rfl
theorem ow61 : m_own 61 = 6 := rfl
theorem rt61 : m_rt 61 = some .int := rfl
theorem ro61 {v : Int} : m_rok 61 v = true := by simp [m_rok, rt61]
theorem na62 : m_na 62 = 3 := rfl
theorem ow62 : m_own 62 = 6 := rfl
theorem rt62 : m_rt 62 = some .int := rfl
theorem ro62 {v : Int} : m_rok 62 v = true := by simp [m_rok, rt62]
theorem na63 : m_na 63 = 1 := rfl
theorem ow63 : m_own 63 = 6 := rfl
theorem rt63 : m_rt 63 = some .int := rfl
theorem ro63 {v : Int} : m_rok 63 v = true := by simp [m_rok, rt63]
theorem na64 : m_na 64 = 1 := rfl
theorem ow64 : m_own 64 = 6 := rfl
theorem rt64 : m_rt 64 = some .int := rfl
theorem ro64 {v : Int} : m_rok 64 v = true := by simp [m_rok, rt64]
theorem na65 : m_na 65 = 2 := rfl
theorem ow65 : m_own 65 = 6 := rfl
theorem rt65 : m_rt 65 = some .int := rfl
theorem ro65 {v : Int} : m_rok 65 v = true := by simp [m_rok, rt65]
theorem na66 : m_na 66 = 3 := rfl
theorem ow66 : m_own 66 = 6 := rfl
theorem rt66 : m_rt 66 = some .int := rfl
theorem ro66 {v : Int} : m_rok 66 v = true := by simp [m_rok, rt66]
theorem na67 : m_na 67 = 3 := rfl
theorem ow67 : m_own 67 = 6 := rfl
theorem rt67 : m_rt 67 = some .int := rfl
theorem ro67 {v : Int} : m_rok 67 v = true := by simp [m_rok, rt67]
theorem na68 : m_na 68 = 3 := rfl
theorem ow68 : m_own 68 = 6 := rfl
theorem rt68 : m_rt 68 = some .int := rfl
theorem ro68 {v : Int} : m_rok 68 v = true := by simp [m_rok, rt68]
theorem na69 : m_na 69 = 2 := rfl
theorem ow69 : m_own 69 = 6 := rfl
theorem rt69 : m_rt 69 = some .int := rfl
theorem ro69 {v : Int} : m_rok 69 v = true := by simp [m_rok, rt69]
theorem na70 : m_na 70 = 3 := rfl
theorem ow70 : m_own 70 = 6 := rfl
theorem rt70 : m_rt 70 = some .int := rfl
theorem ro70 {v : Int} : m_rok 70 v = true := by simp [m_rok, rt70]
theorem na71 : m_na 71 = 1 := rfl
theorem ow71 : m_own 71 = 6 := rfl
theorem rt71 : m_rt 71 = some .int := rfl
theorem ro71 {v : Int} : m_rok 71 v = true := by simp [m_rok, rt71]
theorem na72 : m_na 72 = 1 := rfl
theorem ow72 : m_own 72 = 6 := rfl
theorem rt72 : m_rt 72 = some .int := rfl
theorem ro72 {v : Int} : m_rok 72 v = true := by simp [m_rok, rt72]
theorem na73 : m_na 73 = 2 := rfl
theorem ow73 : m_own 73 = 6 := rfl
theorem rt73 : m_rt 73 = some .int := rfl
theorem ro73 {v : Int} : m_rok 73 v = true := by simp [m_rok, rt73]
theorem na74 : m_na 74 = 3 := rfl
theorem ow74 : m_own 74 = 6 := rfl
theorem rt74 : m_rt 74 = some .int := rfl
theorem ro74 {v : Int} : m_rok 74 v = true := by simp [m_rok, rt74]
theorem na75 : m_na 75 = 3 := rfl
theorem ow75 : m_own 75 = 6 := rfl
theorem rt75 : m_rt 75 = some .int := rfl
theorem ro75 {v : Int} : m_rok 75 v = true := by simp [m_rok, rt75]
theorem na76 : m_na 76 = 3 := rfl
theorem ow76 : m_own 76 = 6 := rfl
theorem rt76 : m_rt 76 = some .int := rfl
theorem ro76 {v : Int} : m_rok 76 v = true := by simp [m_rok, rt76]
theorem na77 : m_na 77 = 4 := rfl
theorem ow77 : m_own 77 = 6 := rfl
theorem rt77 : m_rt 77 = some .int := rfl
theorem ro77 {v : Int} : m_rok 77 v = true := by simp [m_rok, rt77]
theorem na78 : m_na 78 = 2 := rfl
theorem ow78 : m_own 78 = 6 := rfl
theorem rt78 : m_rt 78 = some .int := rfl
theorem ro78 {v : Int} : m_rok 78 v = true := by simp [m_rok, rt78]
theorem na79 : m_na 79 = 2 := rfl
theorem ow79 : m_own 79 = 6 := rfl
theorem rt79 : m_rt 79 = some .int := rfl
theorem ro79 {v : Int} : m_rok 79 v = true := by simp [m_rok, rt79]
theorem na80 : m_na 80 = 2 := rfl
theorem ow80 : m_own 80 = 6 := rfl
theorem rt80 : m_rt 80 = some .int := rfl
theorem ro80 {v : Int} : m_rok 80 v = true := by simp [m_rok, rt80]
theorem na81 : m_na 81 = 2 := rfl
theorem ow81 : m_own 81 = 6 := rfl
theorem rt81 : m_rt 81 = some .boolean := rfl
theorem ro81 {v : Int} (h : v = 0 ∨ v = 1) : m_rok 81 v = true := by rcases h with rfl | rfl <;> rfl
theorem na82 : m_na 82 = 2 := rfl
theorem ow82 : m_own 82 = 6 := rfl
theorem rt82 : m_rt 82 = some .boolean := rfl
theorem ro82 {v : Int} (h : v = 0 ∨ v = 1) : m_rok 82 v = true := by rcases h with rfl | rfl <;> rfl
theorem na83 : m_na 83 = 2 := rfl
theorem ow83 : m_own 83 = 6 := rfl
theorem rt83 : m_rt 83 = some .boolean := rfl
theorem ro83 {v : Int} (h : v = 0 ∨ v = 1) : m_rok 83 v = true := by rcases h with rfl | rfl <;> rfl
theorem na84 : m_na 84 = 1 := rfl
theorem ow84 : m_own 84 = 6 := rfl
theorem rt84 : m_rt 84 = some .boolean := rfl
theorem ro84 {v : Int} (h : v = 0 ∨ v = 1) : m_rok 84 v = true := by rcases h with rfl | rfl <;> rfl
theorem na85 : m_na 85 = 2 := rfl
theorem ow85 : m_own 85 = 6 := rfl
theorem rt85 : m_rt 85 = some .boolean := rfl
theorem ro85 {v : Int} (h : v = 0 ∨ v = 1) : m_rok 85 v = true := by rcases h with rfl | rfl <;> rfl
theorem na86 : m_na 86 = 1 := rfl
theorem ow86 : m_own 86 = 6 := rfl
theorem rt86 : m_rt 86 = some .boolean := rfl
theorem ro86 {v : Int} (h : v = 0 ∨ v = 1) : m_rok 86 v = true := by rcases h with rfl | rfl <;> rfl
theorem na87 : m_na 87 = 1 := rfl
theorem ow87 : m_own 87 = 6 := rfl
theorem rt87 : m_rt 87 = some .int := rfl
theorem ro87 {v : Int} : m_rok 87 v = true := by simp [m_rok, rt87]
theorem na88 : m_na 88 = 1 := rfl
theorem ow88 : m_own 88 = 6 := rfl
theorem rt88 : m_rt 88 = none := rfl
theorem na89 : m_na 89 = 1 := rfl
theorem ow89 : m_own 89 = 6 := rfl
theorem rt89 : m_rt 89 = none := rfl
theorem na90 : m_na 90 = 3 := rfl
theorem ow90 : m_own 90 = 6 := rfl
theorem rt90 : m_rt 90 = some .int := rfl
theorem ro90 {v : Int} : m_rok 90 v = true := by simp [m_rok, rt90]
theorem na91 : m_na 91 = 3 := rfl
theorem ow91 : m_own 91 = 6 := rfl
theorem rt91 : m_rt 91 = some .boolean := rfl
theorem ro91 {v : Int} (h : v = 0 ∨ v = 1) : m_rok 91 v = true := by rcases h with rfl | rfl <;> rfl
theorem na92 : m_na 92 = 3 := rfl
theorem ow92 : m_own 92 = 6 := rfl
theorem rt92 : m_rt 92 = some .boolean := rfl
theorem ro92 {v : Int} (h : v = 0 ∨ v = 1) : m_rok 92 v = true := by rcases h with rfl | rfl <;> rfl
theorem na93 : m_na 93 = 3 := rfl
theorem ow93 : m_own 93 = 6 := rfl
theorem rt93 : m_rt 93 = some .int := rfl
theorem ro93 {v : Int} : m_rok 93 v = true := by simp [m_rok, rt93]
theorem na94 : m_na 94 = 3 := rfl
theorem ow94 : m_own 94 = 6 := rfl
theorem rt94 : m_rt 94 = some .int := rfl
theorem ro94 {v : Int} : m_rok 94 v = true := by simp [m_rok, rt94]
theorem na95 : m_na 95 = 2 := rfl
theorem ow95 : m_own 95 = 6 := rfl
theorem rt95 : m_rt 95 = some .int := rfl
theorem ro95 {v : Int} : m_rok 95 v = true := by simp [m_rok, rt95]
theorem na96 : m_na 96 = 1 := rfl
theorem ow96 : m_own 96 = 6 := rfl
theorem rt96 : m_rt 96 = some .int := rfl
theorem ro96 {v : Int} : m_rok 96 v = true := by simp [m_rok, rt96]
theorem na97 : m_na 97 = 3 := rfl
theorem ow97 : m_own 97 = 7 := rfl
theorem rt97 : m_rt 97 = some .boolean := rfl
theorem ro97 {v : Int} (h : v = 0 ∨ v = 1) : m_rok 97 v = true := by rcases h with rfl | rfl <;> rfl
theorem na98 : m_na 98 = 1 := rfl
theorem ow98 : m_own 98 = 7 := rfl
theorem rt98 : m_rt 98 = none := rfl
theorem na99 : m_na 99 = 1 := rfl
theorem ow99 : m_own 99 = 7 := rfl
theorem rt99 : m_rt 99 = none := rfl
theorem na100 : m_na 100 = 1 := rfl
theorem ow100 : m_own 100 = 7 := rfl
theorem rt100 : m_rt 100 = none := rfl
theorem na101 : m_na 101 = 2 := rfl
theorem ow101 : m_own 101 = 7 := rfl
theorem rt101 : m_rt 101 = some .int := rfl
theorem ro101 {v : Int} : m_rok 101 v = true := by simp [m_rok, rt101]
theorem na102 : m_na 102 = 1 := rfl
theorem ow102 : m_own 102 = 7 := rfl
theorem rt102 : m_rt 102 = some .int := rfl
theorem ro102 {v : Int} : m_rok 102 v = true := by simp [m_rok, rt102]
theorem na103 : m_na 103 = 1 := rfl
theorem ow103 : m_own 103 = 7 := rfl
theorem rt103 : m_rt 103 = some .int := rfl
theorem ro103 {v : Int} : m_rok 103 v = true := by simp [m_rok, rt103]
theorem na104 : m_na 104 = 3 := rfl
theorem ow104 : m_own 104 = 7 := rfl
theorem rt104 : m_rt 104 = some .boolean := rfl
theorem ro104 {v : Int} (h : v = 0 ∨ v = 1) : m_rok 104 v = true := by rcases h with rfl | rfl <;> rfl
theorem na105 : m_na 105 = 1 := rfl
theorem ow105 : m_own 105 = 7 := rfl
theorem rt105 : m_rt 105 = some .boolean := rfl
theorem ro105 {v : Int} (h : v = 0 ∨ v = 1) : m_rok 105 v = true := by rcases h with rfl | rfl <;> rfl
theorem na106 : m_na 106 = 6 := rfl
theorem ow106 : m_own 106 = 7 := rfl
theorem rt106 : m_rt 106 = some .boolean := rfl
theorem ro106 {v : Int} (h : v = 0 ∨ v = 1) : m_rok 106 v = true := by rcases h with rfl | rfl <;> rfl
theorem na107 : m_na 107 = 1 := rfl
theorem ow107 : m_own 107 = 7 := rfl
theorem rt107 : m_rt 107 = some .boolean := rfl
theorem ro107 {v : Int} (h : v = 0 ∨ v = 1) : m_rok 107 v = true := by rcases h with rfl | rfl <;> rfl
theorem na108 : m_na 108 = 1 := rfl
theorem ow108 : m_own 108 = 7 := rfl
theorem rt108 : m_rt 108 = some .int := rfl
theorem ro108 {v : Int} : m_rok 108 v = true := by simp [m_rok, rt108]
theorem na109 : m_na 109 = 2 := rfl
theorem ow109 : m_own 109 = 7 := rfl
theorem rt109 : m_rt 109 = some .boolean := rfl
theorem ro109 {v : Int} (h : v = 0 ∨ v = 1) : m_rok 109 v = true := by rcases h with rfl | rfl <;> rfl
theorem na110 : m_na 110 = 2 := rfl
theorem ow110 : m_own 110 = 7 := rfl
theorem rt110 : m_rt 110 = some .boolean := rfl
theorem ro110 {v : Int} (h : v = 0 ∨ v = 1) : m_rok 110 v = true := by rcases h with rfl | rfl <;> rfl
theorem na111 : m_na 111 = 1 := rfl
theorem ow111 : m_own 111 = 7 := rfl
theorem rt111 : m_rt 111 = some .int := rfl
theorem ro111 {v : Int} : m_rok 111 v = true := by simp [m_rok, rt111]
theorem na112 : m_na 112 = 2 := rfl
theorem ow112 : m_own 112 = 7 := rfl
theorem rt112 : m_rt 112 = some .boolean := rfl
theorem ro112 {v : Int} (h : v = 0 ∨ v = 1) : m_rok 112 v = true := by rcases h with rfl | rfl <;> rfl
theorem na113 : m_na 113 = 3 := rfl
theorem ow113 : m_own 113 = 7 := rfl
theorem rt113 : m_rt 113 = some .int := rfl
theorem ro113 {v : Int} : m_rok 113 v = true := by simp [m_rok, rt113]
theorem na114 : m_na 114 = 2 := rfl
theorem ow114 : m_own 114 = 7 := rfl
theorem rt114 : m_rt 114 = some .boolean := rfl
theorem ro114 {v : Int} (h : v = 0 ∨ v = 1) : m_rok 114 v = true := by rcases h with rfl | rfl <;> rfl
theorem na115 : m_na 115 = 2 := rfl
theorem ow115 : m_own 115 = 7 := rfl
theorem rt115 : m_rt 115 = some .int := rfl
theorem ro115 {v : Int} : m_rok 115 v = true := by simp [m_rok, rt115]
theorem na116 : m_na 116 = 1 := rfl
theorem ow116 : m_own 116 = 7 := rfl
theorem rt116 : m_rt 116 = none := rfl
theorem na117 : m_na 117 = 2 := rfl
theorem ow117 : m_own 117 = 7 := rfl
theorem rt117 : m_rt 117 = some .int := rfl
theorem ro117 {v : Int} : m_rok 117 v = true := by simp [m_rok, rt117]
theorem na118 : m_na 118 = 2 := rfl
theorem ow118 : m_own 118 = 7 := rfl
theorem rt118 : m_rt 118 = some .int := rfl
theorem ro118 {v : Int} : m_rok 118 v = true := by simp [m_rok, rt118]
theorem na119 : m_na 119 = 3 := rfl
theorem ow119 : m_own 119 = 7 := rfl
theorem rt119 : m_rt 119 = some .int := rfl
theorem ro119 {v : Int} : m_rok 119 v = true := by simp [m_rok, rt119]
theorem na120 : m_na 120 = 3 := rfl
theorem ow120 : m_own 120 = 7 := rfl
theorem rt120 : m_rt 120 = some .int := rfl
theorem ro120 {v : Int} : m_rok 120 v = true := by simp [m_rok, rt120]
theorem na121 : m_na 121 = 3 := rfl
theorem ow121 : m_own 121 = 7 := rfl
theorem rt121 : m_rt 121 = some .int := rfl
theorem ro121 {v : Int} : m_rok 121 v = true := by simp [m_rok, rt121]
theorem na122 : m_na 122 = 3 := rfl
theorem ow122 : m_own 122 = 7 := rfl
theorem rt122 : m_rt 122 = some .int := rfl
theorem ro122 {v : Int} : m_rok 122 v = true := by simp [m_rok, rt122]
theorem na123 : m_na 123 = 1 := rfl
theorem ow123 : m_own 123 = 7 := rfl
theorem rt123 : m_rt 123 = some .int := rfl
theorem ro123 {v : Int} : m_rok 123 v = true := by simp [m_rok, rt123]
theorem na124 : m_na 124 = 1 := rfl
theorem ow124 : m_own 124 = 7 := rfl
theorem rt124 : m_rt 124 = none := rfl
theorem na125 : m_na 125 = 3 := rfl
theorem ow125 : m_own 125 = 7 := rfl
theorem rt125 : m_rt 125 = some .int := rfl
theorem ro125 {v : Int} : m_rok 125 v = true := by simp [m_rok, rt125]
theorem na126 : m_na 126 = 2 := rfl
theorem ow126 : m_own 126 = 7 := rfl
theorem rt126 : m_rt 126 = some .int := rfl
theorem ro126 {v : Int} : m_rok 126 v = true := by simp [m_rok, rt126]
theorem na127 : m_na 127 = 3 := rfl
theorem ow127 : m_own 127 = 7 := rfl
theorem rt127 : m_rt 127 = some .int := rfl
theorem ro127 {v : Int} : m_rok 127 v = true := by simp [m_rok, rt127]
theorem na128 : m_na 128 = 1 := rfl
theorem ow128 : m_own 128 = 7 := rfl
theorem rt128 : m_rt 128 = some .int := rfl
theorem ro128 {v : Int} : m_rok 128 v = true := by simp [m_rok, rt128]
theorem na129 : m_na 129 = 1 := rfl
theorem ow129 : m_own 129 = 7 := rfl
theorem rt129 : m_rt 129 = some .int := rfl
theorem ro129 {v : Int} : m_rok 129 v = true := by simp [m_rok, rt129]
theorem na130 : m_na 130 = 2 := rfl
theorem ow130 : m_own 130 = 7 := rfl
theorem rt130 : m_rt 130 = some .int := rfl
theorem ro130 {v : Int} : m_rok 130 v = true := by simp [m_rok, rt130]
theorem na131 : m_na 131 = 3 := rfl
theorem ow131 : m_own 131 = 7 := rfl
theorem rt131 : m_rt 131 = some .int := rfl
theorem ro131 {v : Int} : m_rok 131 v = true := by simp [m_rok, rt131]
theorem na132 : m_na 132 = 4 := rfl
theorem ow132 : m_own 132 = 7 := rfl
theorem rt132 : m_rt 132 = some .boolean := rfl
theorem ro132 {v : Int} (h : v = 0 ∨ v = 1) : m_rok 132 v = true := by rcases h with rfl | rfl <;> rfl
theorem na133 : m_na 133 = 3 := rfl
theorem ow133 : m_own 133 = 7 := rfl
theorem rt133 : m_rt 133 = some .boolean := rfl
theorem ro133 {v : Int} (h : v = 0 ∨ v = 1) : m_rok 133 v = true := by rcases h with rfl | rfl <;> rfl
theorem na134 : m_na 134 = 1 := rfl
theorem ow134 : m_own 134 = 7 := rfl
theorem rt134 : m_rt 134 = none := rfl
theorem na135 : m_na 135 = 1 := rfl
theorem ow135 : m_own 135 = 7 := rfl
theorem rt135 : m_rt 135 = some .int := rfl
theorem ro135 {v : Int} : m_rok 135 v = true := by simp [m_rok, rt135]
theorem na136 : m_na 136 = 3 := rfl
theorem ow136 : m_own 136 = 7 := rfl
theorem rt136 : m_rt 136 = some .int := rfl
theorem ro136 {v : Int} : m_rok 136 v = true := by simp [m_rok, rt136]
theorem na137 : m_na 137 = 2 := rfl
theorem ow137 : m_own 137 = 7 := rfl
theorem rt137 : m_rt 137 = some .int := rfl
theorem ro137 {v : Int} : m_rok 137 v = true := by simp [m_rok, rt137]
theorem na138 : m_na 138 = 3 := rfl
theorem ow138 : m_own 138 = 7 := rfl
theorem rt138 : m_rt 138 = some .int := rfl
theorem ro138 {v : Int} : m_rok 138 v = true := by simp [m_rok, rt138]
theorem na139 : m_na 139 = 1 := rfl
theorem ow139 : m_own 139 = 7 := rfl
theorem rt139 : m_rt 139 = none := rfl
theorem na140 : m_na 140 = 3 := rfl
theorem ow140 : m_own 140 = 7 := rfl
theorem rt140 : m_rt 140 = some .boolean := rfl
theorem ro140 {v : Int} (h : v = 0 ∨ v = 1) : m_rok 140 v = true := by rcases h with rfl | rfl <;> rfl
theorem na141 : m_na 141 = 1 := rfl
theorem ow141 : m_own 141 = 7 := rfl
theorem rt141 : m_rt 141 = some .boolean := rfl
theorem ro141 {v : Int} (h : v = 0 ∨ v = 1) : m_rok 141 v = true := by rcases h with rfl | rfl <;> rfl
theorem na142 : m_na 142 = 2 := rfl
theorem ow142 : m_own 142 = 7 := rfl
theorem rt142 : m_rt 142 = some .int := rfl
theorem ro142 {v : Int} : m_rok 142 v = true := by simp [m_rok, rt142]
theorem na143 : m_na 143 = 3 := rfl
theorem ow143 : m_own 143 = 7 := rfl
theorem rt143 : m_rt 143 = some .int := rfl
theorem ro143 {v : Int} : m_rok 143 v = true := by simp [m_rok, rt143]
theorem na144 : m_na 144 = 1 := rfl
theorem ow144 : m_own 144 = 7 := rfl
theorem rt144 : m_rt 144 = some .int := rfl
theorem ro144 {v : Int} : m_rok 144 v = true := by simp [m_rok, rt144]
theorem na145 : m_na 145 = 1 := rfl
theorem ow145 : m_own 145 = 7 := rfl
theorem rt145 : m_rt 145 = some .int := rfl
theorem ro145 {v : Int} : m_rok 145 v = true := by simp [m_rok, rt145]
theorem na146 : m_na 146 = 2 := rfl
theorem ow146 : m_own 146 = 7 := rfl
theorem rt146 : m_rt 146 = some .int := rfl
theorem ro146 {v : Int} : m_rok 146 v = true := by simp [m_rok, rt146]
theorem na147 : m_na 147 = 3 := rfl
theorem ow147 : m_own 147 = 7 := rfl
theorem rt147 : m_rt 147 = some .int := rfl
theorem ro147 {v : Int} : m_rok 147 v = true := by simp [m_rok, rt147]
theorem na148 : m_na 148 = 3 := rfl
theorem ow148 : m_own 148 = 7 := rfl
theorem rt148 : m_rt 148 = some .int := rfl
theorem ro148 {v : Int} : m_rok 148 v = true := by simp [m_rok, rt148]
theorem na149 : m_na 149 = 5 := rfl
theorem ow149 : m_own 149 = 7 := rfl
theorem rt149 : m_rt 149 = none := rfl
theorem na150 : m_na 150 = 3 := rfl
theorem ow150 : m_own 150 = 7 := rfl
theorem rt150 : m_rt 150 = none := rfl
theorem na151 : m_na 151 = 1 := rfl
theorem ow151 : m_own 151 = 7 := rfl
theorem rt151 : m_rt 151 = none := rfl
theorem na152 : m_na 152 = 2 := rfl
theorem ow152 : m_own 152 = 7 := rfl
theorem rt152 : m_rt 152 = some .boolean := rfl
theorem ro152 {v : Int} (h : v = 0 ∨ v = 1) : m_rok 152 v = true := by rcases h with rfl | rfl <;> rfl
theorem na153 : m_na 153 = 3 := rfl
theorem ow153 : m_own 153 = 7 := rfl
theorem rt153 : m_rt 153 = some .int := rfl
theorem ro153 {v : Int} : m_rok 153 v = true := by simp [m_rok, rt153]
theorem na154 : m_na 154 = 3 := rfl
theorem ow154 : m_own 154 = 7 := rfl
theorem rt154 : m_rt 154 = some .int := rfl
theorem ro154 {v : Int} : m_rok 154 v = true := by simp [m_rok, rt154]
theorem na155 : m_na 155 = 3 := rfl
theorem ow155 : m_own 155 = 7 := rfl
theorem rt155 : m_rt 155 = some .int := rfl
theorem ro155 {v : Int} : m_rok 155 v = true := by simp [m_rok, rt155]
theorem na156 : m_na 156 = 4 := rfl
theorem ow156 : m_own 156 = 7 := rfl
theorem rt156 : m_rt 156 = some .int := rfl
theorem ro156 {v : Int} : m_rok 156 v = true := by simp [m_rok, rt156]
theorem na157 : m_na 157 = 2 := rfl
theorem ow157 : m_own 157 = 7 := rfl
theorem rt157 : m_rt 157 = some .int := rfl
theorem ro157 {v : Int} : m_rok 157 v = true := by simp [m_rok, rt157]
theorem na158 : m_na 158 = 2 := rfl
theorem ow158 : m_own 158 = 7 := rfl
theorem rt158 : m_rt 158 = some .int := rfl
theorem ro158 {v : Int} : m_rok 158 v = true := by simp [m_rok, rt158]
theorem na159 : m_na 159 = 1 := rfl
theorem ow159 : m_own 159 = 7 := rfl
theorem rt159 : m_rt 159 = some .int := rfl
theorem ro159 {v : Int} : m_rok 159 v = true := by simp [m_rok, rt159]
theorem na160 : m_na 160 = 2 := rfl
theorem ow160 : m_own 160 = 7 := rfl
theorem rt160 : m_rt 160 = some .int := rfl
theorem ro160 {v : Int} : m_rok 160 v = true := by simp [m_rok, rt160]
theorem na161 : m_na 161 = 2 := rfl
theorem ow161 : m_own 161 = 8 := rfl
theorem rt161 : m_rt 161 = none := rfl
theorem na162 : m_na 162 = 1 := rfl
theorem ow162 : m_own 162 = 9 := rfl
theorem rt162 : m_rt 162 = some .int := rfl
theorem ro162 {v : Int} : m_rok 162 v = true := by simp [m_rok, rt162]
theorem tg0_0 : (m_tagL 0)[0]? = some 2 := rfl
theorem tg0_1 : (m_tagL 0)[1]? = some 2 := rfl
theorem tg0_2 : (m_tagL 0)[2]? = some 2 := rfl
theorem tg0_3 : (m_tagL 0)[3]? = some 2 := rfl
theorem tg0_4 : (m_tagL 0)[4]? = some 2 := rfl
theorem tg0_5 : (m_tagL 0)[5]? = some 1 := rfl
theorem fn0_5 : ((m_C 0).2.1 5).2.2.2 = false := rfl
theorem tg1_0 : (m_tagL 1)[0]? = some 2 := rfl
theorem tg1_1 : (m_tagL 1)[1]? = some 2 := rfl
theorem tg1_2 : (m_tagL 1)[2]? = some 2 := rfl
theorem tg1_3 : (m_tagL 1)[3]? = some 2 := rfl
theorem tg1_4 : (m_tagL 1)[4]? = some 2 := rfl
theorem tg1_5 : (m_tagL 1)[5]? = some 2 := rfl
theorem tg1_6 : (m_tagL 1)[6]? = some 0 := rfl
theorem fn1_6 : ((m_C 1).2.1 6).2.2.2 = false := rfl
theorem tg1_7 : (m_tagL 1)[7]? = some 0 := rfl
theorem fn1_7 : ((m_C 1).2.1 7).2.2.2 = false := rfl
theorem tg1_8 : (m_tagL 1)[8]? = some 0 := rfl
theorem fn1_8 : ((m_C 1).2.1 8).2.2.2 = false := rfl
theorem tg2_0 : (m_tagL 2)[0]? = some 2 := rfl
theorem tg2_1 : (m_tagL 2)[1]? = some 2 := rfl
theorem tg3_0 : (m_tagL 3)[0]? = some 0 := rfl
theorem fn3_0 : ((m_C 3).2.1 0).2.2.2 = false := rfl
theorem tg3_1 : (m_tagL 3)[1]? = some 0 := rfl
theorem fn3_1 : ((m_C 3).2.1 1).2.2.2 = false := rfl
theorem tg3_2 : (m_tagL 3)[2]? = some 0 := rfl
theorem fn3_2 : ((m_C 3).2.1 2).2.2.2 = false := rfl
theorem tg3_3 : (m_tagL 3)[3]? = some 0 := rfl
theorem fn3_3 : ((m_C 3).2.1 3).2.2.2 = false := rfl
theorem tg3_4 : (m_tagL 3)[4]? = some 1 := rfl
theorem fn3_4 : ((m_C 3).2.1 4).2.2.2 = false := rfl
theorem tg3_5 : (m_tagL 3)[5]? = some 1 := rfl
theorem fn3_5 : ((m_C 3).2.1 5).2.2.2 = false := rfl
theorem tg3_6 : (m_tagL 3)[6]? = some 1 := rfl
theorem fn3_6 : ((m_C 3).2.1 6).2.2.2 = false := rfl
theorem tg3_7 : (m_tagL 3)[7]? = some 1 := rfl
theorem fn3_7 : ((m_C 3).2.1 7).2.2.2 = false := rfl
theorem tg4_0 : (m_tagL 4)[0]? = some 0 := rfl
theorem fn4_0 : ((m_C 4).2.1 0).2.2.2 = false := rfl
theorem tg4_1 : (m_tagL 4)[1]? = some 0 := rfl
theorem fn4_1 : ((m_C 4).2.1 1).2.2.2 = false := rfl
theorem tg4_2 : (m_tagL 4)[2]? = some 0 := rfl
theorem fn4_2 : ((m_C 4).2.1 2).2.2.2 = false := rfl
theorem tg4_3 : (m_tagL 4)[3]? = some 0 := rfl
theorem fn4_3 : ((m_C 4).2.1 3).2.2.2 = false := rfl
theorem tg4_4 : (m_tagL 4)[4]? = some 0 := rfl
theorem fn4_4 : ((m_C 4).2.1 4).2.2.2 = false := rfl
theorem tg4_5 : (m_tagL 4)[5]? = some 0 := rfl
theorem fn4_5 : ((m_C 4).2.1 5).2.2.2 = false := rfl
theorem tg4_6 : (m_tagL 4)[6]? = some 0 := rfl
theorem fn4_6 : ((m_C 4).2.1 6).2.2.2 = false := rfl
theorem tg4_7 : (m_tagL 4)[7]? = some 2 := rfl
theorem tg4_8 : (m_tagL 4)[8]? = some 2 := rfl
theorem tg4_9 : (m_tagL 4)[9]? = some 2 := rfl
theorem tg4_10 : (m_tagL 4)[10]? = some 2 := rfl
theorem tg5_0 : (m_tagL 5)[0]? = some 2 := rfl
theorem tg6_0 : (m_tagL 6)[0]? = some 2 := rfl
theorem tg6_1 : (m_tagL 6)[1]? = some 0 := rfl
theorem fn6_1 : ((m_C 6).2.1 1).2.2.2 = false := rfl
theorem tg6_2 : (m_tagL 6)[2]? = some 2 := rfl
theorem tg6_3 : (m_tagL 6)[3]? = some 2 := rfl
theorem fn6_3 : ((m_C 6).2.1 3).2.2.2 = false := rfl
theorem tg6_4 : (m_tagL 6)[4]? = some 2 := rfl
theorem fn6_4 : ((m_C 6).2.1 4).2.2.2 = false := rfl
theorem tg6_5 : (m_tagL 6)[5]? = some 2 := rfl
theorem tg6_6 : (m_tagL 6)[6]? = some 2 := rfl
theorem tg6_7 : (m_tagL 6)[7]? = some 2 := rfl
theorem tg6_8 : (m_tagL 6)[8]? = some 0 := rfl
theorem fn6_8 : ((m_C 6).2.1 8).2.2.2 = false := rfl
theorem tg6_9 : (m_tagL 6)[9]? = some 0 := rfl
theorem fn6_9 : ((m_C 6).2.1 9).2.2.2 = false := rfl
theorem tg6_10 : (m_tagL 6)[10]? = some 2 := rfl
theorem tg6_11 : (m_tagL 6)[11]? = some 2 := rfl
theorem tg6_12 : (m_tagL 6)[12]? = some 2 := rfl
theorem tg6_13 : (m_tagL 6)[13]? = some 2 := rfl
theorem tg6_14 : (m_tagL 6)[14]? = some 2 := rfl
theorem tg6_15 : (m_tagL 6)[15]? = some 2 := rfl
theorem tg7_0 : (m_tagL 7)[0]? = some 0 := rfl
theorem fn7_0 : ((m_C 7).2.1 0).2.2.2 = false := rfl
theorem tg7_1 : (m_tagL 7)[1]? = some 2 := rfl
theorem tg7_2 : (m_tagL 7)[2]? = some 2 := rfl
theorem tg7_3 : (m_tagL 7)[3]? = some 2 := rfl
theorem tg7_4 : (m_tagL 7)[4]? = some 0 := rfl
theorem fn7_4 : ((m_C 7).2.1 4).2.2.2 = false := rfl
theorem tg7_5 : (m_tagL 7)[5]? = some 2 := rfl
theorem tg7_6 : (m_tagL 7)[6]? = some 2 := rfl
theorem tg7_7 : (m_tagL 7)[7]? = some 2 := rfl
theorem tg7_8 : (m_tagL 7)[8]? = some 0 := rfl
theorem fn7_8 : ((m_C 7).2.1 8).2.2.2 = false := rfl
theorem tg7_9 : (m_tagL 7)[9]? = some 2 := rfl
theorem tg7_10 : (m_tagL 7)[10]? = some 2 := rfl
theorem tg7_11 : (m_tagL 7)[11]? = some 2 := rfl
theorem tg7_12 : (m_tagL 7)[12]? = some 0 := rfl
theorem fn7_12 : ((m_C 7).2.1 12).2.2.2 = false := rfl
theorem tg7_13 : (m_tagL 7)[13]? = some 2 := rfl
theorem tg7_14 : (m_tagL 7)[14]? = some 0 := rfl
theorem fn7_14 : ((m_C 7).2.1 14).2.2.2 = false := rfl
theorem tg7_15 : (m_tagL 7)[15]? = some 0 := rfl
theorem fn7_15 : ((m_C 7).2.1 15).2.2.2 = false := rfl
theorem tg7_16 : (m_tagL 7)[16]? = some 0 := rfl
theorem fn7_16 : ((m_C 7).2.1 16).2.2.2 = false := rfl
theorem tg7_17 : (m_tagL 7)[17]? = some 2 := rfl
theorem tg7_18 : (m_tagL 7)[18]? = some 2 := rfl
theorem tg7_19 : (m_tagL 7)[19]? = some 0 := rfl
theorem fn7_19 : ((m_C 7).2.1 19).2.2.2 = false := rfl
theorem tg7_20 : (m_tagL 7)[20]? = some 2 := rfl
theorem tg7_21 : (m_tagL 7)[21]? = some 2 := rfl
theorem tg7_22 : (m_tagL 7)[22]? = some 0 := rfl
theorem fn7_22 : ((m_C 7).2.1 22).2.2.2 = false := rfl
theorem tg7_23 : (m_tagL 7)[23]? = some 1 := rfl
theorem fn7_23 : ((m_C 7).2.1 23).2.2.2 = false := rfl
theorem tg7_24 : (m_tagL 7)[24]? = some 0 := rfl
theorem fn7_24 : ((m_C 7).2.1 24).2.2.2 = false := rfl
theorem tg7_25 : (m_tagL 7)[25]? = some 0 := rfl
theorem fn7_25 : ((m_C 7).2.1 25).2.2.2 = false := rfl
theorem tg7_26 : (m_tagL 7)[26]? = some 2 := rfl
theorem tg7_27 : (m_tagL 7)[27]? = some 2 := rfl
theorem tg7_28 : (m_tagL 7)[28]? = some 2 := rfl
theorem tg7_29 : (m_tagL 7)[29]? = some 2 := rfl
end
section
/-! facts of the tables, one by one (printed by gen3.py) -/
theorem g34_0 : m_get 34 0 = some (.aload_n 0, 1) := by decide +kernel
theorem g34_1 : m_get 34 1 = some (.invokespecial 3, 3) := by decide +kernel
theorem g34_4 : m_get 34 4 = some (.aload_n 0, 1) := by decide +kernel
theorem g34_5 : m_get 34 5 = some (.bipush 24, 2) := by decide +kernel
theorem g34_7 : m_get 34 7 = some (.newarray .int, 2) := by decide +kernel
theorem g34_9 : m_get 34 9 = some (.putfield 9, 3) := by decide +kernel
theorem g34_12 : m_get 34 12 = some (.aload_n 0, 1) := by decide +kernel
theorem g34_13 : m_get 34 13 = some (.bipush 6, 2) := by decide +kernel
theorem g34_15 : m_get 34 15 = some (.newarray .int, 2) := by decide +kernel
theorem g34_17 : m_get 34 17 = some (.putfield 15, 3) := by decide +kernel
theorem g34_20 : m_get 34 20 = some (.aload_n 0, 1) := by decide +kernel
theorem g34_21 : m_get 34 21 = some (.bipush 6, 2) := by decide +kernel
theorem g34_23 : m_get 34 23 = some (.newarray .int, 2) := by decide +kernel
theorem g34_25 : m_get 34 25 = some (.putfield 18, 3) := by decide +kernel
theorem g34_28 : m_get 34 28 = some (.aload_n 0, 1) := by decide +kernel
theorem g34_29 : m_get 34 29 = some (.bipush 40, 2) := by decide +kernel
theorem g34_31 : m_get 34 31 = some (.newarray .int, 2) := by decide +kernel
theorem g34_33 : m_get 34 33 = some (.putfield 21, 3) := by decide +kernel
theorem g34_36 : m_get 34 36 = some (.aload_n 0, 1) := by decide +kernel
theorem g34_37 : m_get 34 37 = some (.invokevirtual 24, 3) := by decide +kernel
theorem g34_40 : m_get 34 40 = some (.return_, 1) := by decide +kernel
theorem f34_9 : m_fl (m_own 34) 9 = some (4, 7) := by decide +kernel
theorem f34_15 : m_fl (m_own 34) 15 = some (4, 8) := by decide +kernel
theorem f34_18 : m_fl (m_own 34) 18 = some (4, 9) := by decide +kernel
theorem f34_21 : m_fl (m_own 34) 21 = some (4, 10) := by decide +kernel
theorem k34_3 : m_ml (m_own 34) 3 = some (5, 0) := by decide +kernel
theorem k34_24 : m_ml (m_own 34) 24 = some (0, 35) := by decide +kernel
theorem g35_0 : m_get 35 0 = some (.aload_n 0, 1) := by decide +kernel
theorem g35_1 : m_get 35 1 = some (.iconst 0, 1) := by decide +kernel
theorem g35_2 : m_get 35 2 = some (.putfield 27, 3) := by decide +kernel
theorem g35_5 : m_get 35 5 = some (.aload_n 0, 1) := by decide +kernel
theorem g35_6 : m_get 35 6 = some (.iconst 2, 1) := by decide +kernel
theorem g35_7 : m_get 35 7 = some (.putfield 31, 3) := by decide +kernel
theorem g35_10 : m_get 35 10 = some (.aload_n 0, 1) := by decide +kernel
theorem g35_11 : m_get 35 11 = some (.iconst 2, 1) := by decide +kernel
theorem g35_12 : m_get 35 12 = some (.putfield 34, 3) := by decide +kernel
theorem g35_15 : m_get 35 15 = some (.aload_n 0, 1) := by decide +kernel
theorem g35_16 : m_get 35 16 = some (.bipush (-9), 2) := by decide +kernel
theorem g35_18 : m_get 35 18 = some (.putfield 37, 3) := by decide +kernel
theorem g35_21 : m_get 35 21 = some (.aload_n 0, 1) := by decide +kernel
theorem g35_22 : m_get 35 22 = some (.bipush 9, 2) := by decide +kernel
theorem g35_24 : m_get 35 24 = some (.putfield 40, 3) := by decide +kernel
theorem g35_27 : m_get 35 27 = some (.aload_n 0, 1) := by decide +kernel
theorem g35_28 : m_get 35 28 = some (.iconst 4, 1) := by decide +kernel
theorem g35_29 : m_get 35 29 = some (.putfield 43, 3) := by decide +kernel
theorem g35_32 : m_get 35 32 = some (.aload_n 0, 1) := by decide +kernel
theorem g35_33 : m_get 35 33 = some (.iconst 1, 1) := by decide +kernel
theorem g35_34 : m_get 35 34 = some (.putfield 46, 3) := by decide +kernel
theorem g35_37 : m_get 35 37 = some (.return_, 1) := by decide +kernel
theorem f35_27 : m_fl (m_own 35) 27 = some (4, 0) := by decide +kernel
theorem f35_31 : m_fl (m_own 35) 31 = some (4, 1) := by decide +kernel
theorem f35_34 : m_fl (m_own 35) 34 = some (4, 2) := by decide +kernel
theorem f35_37 : m_fl (m_own 35) 37 = some (4, 3) := by decide +kernel
theorem f35_40 : m_fl (m_own 35) 40 = some (4, 4) := by decide +kernel
theorem f35_43 : m_fl (m_own 35) 43 = some (4, 5) := by decide +kernel
theorem f35_46 : m_fl (m_own 35) 46 = some (4, 6) := by decide +kernel
theorem g36_0 : m_get 36 0 = some (.aload_n 0, 1) := by decide +kernel
theorem g36_1 : m_get 36 1 = some (.getfield 31, 3) := by decide +kernel
theorem g36_4 : m_get 36 4 = some (.aload_n 0, 1) := by decide +kernel
theorem g36_5 : m_get 36 5 = some (.getfield 34, 3) := by decide +kernel
theorem g36_8 : m_get 36 8 = some (.imul, 1) := by decide +kernel
theorem g36_9 : m_get 36 9 = some (.bipush 6, 2) := by decide +kernel
theorem g36_11 : m_get 36 11 = some (.invokestatic 49, 3) := by decide +kernel
theorem g36_14 : m_get 36 14 = some (.ireturn, 1) := by decide +kernel
theorem f36_31 : m_fl (m_own 36) 31 = some (4, 1) := by decide +kernel
theorem f36_34 : m_fl (m_own 36) 34 = some (4, 2) := by decide +kernel
theorem k36_49 : m_ml (m_own 36) 49 = some (8, 0) := by decide +kernel
theorem g37_0 : m_get 37 0 = some (.iload_n 1, 1) := by decide +kernel
theorem g37_1 : m_get 37 1 = some (.ifCond .lt 18, 3) := by decide +kernel
theorem g37_4 : m_get 37 4 = some (.iload_n 1, 1) := by decide +kernel
theorem g37_5 : m_get 37 5 = some (.bipush 24, 2) := by decide +kernel
theorem g37_7 : m_get 37 7 = some (.if_icmp .ge 12, 3) := by decide +kernel
theorem g37_10 : m_get 37 10 = some (.iload_n 2, 1) := by decide +kernel
theorem g37_11 : m_get 37 11 = some (.ifCond .lt 8, 3) := by decide +kernel
theorem g37_14 : m_get 37 14 = some (.iload_n 2, 1) := by decide +kernel
theorem g37_15 : m_get 37 15 = some (.iconst 4, 1) := by decide +kernel
theorem g37_16 : m_get 37 16 = some (.if_icmp .lt 6, 3) := by decide +kernel
theorem g37_19 : m_get 37 19 = some (.bipush (-9), 2) := by decide +kernel
theorem g37_21 : m_get 37 21 = some (.ireturn, 1) := by decide +kernel
theorem g37_22 : m_get 37 22 = some (.iload_n 1, 1) := by decide +kernel
theorem g37_23 : m_get 37 23 = some (.iconst 4, 1) := by decide +kernel
theorem g37_24 : m_get 37 24 = some (.irem, 1) := by decide +kernel
theorem g37_25 : m_get 37 25 = some (.istore_n 3, 1) := by decide +kernel
theorem g37_26 : m_get 37 26 = some (.aload_n 0, 1) := by decide +kernel
theorem g37_27 : m_get 37 27 = some (.getfield 9, 3) := by decide +kernel
theorem g37_30 : m_get 37 30 = some (.iload_n 1, 1) := by decide +kernel
theorem g37_31 : m_get 37 31 = some (.iconst 4, 1) := by decide +kernel
theorem g37_32 : m_get 37 32 = some (.idiv, 1) := by decide +kernel
theorem g37_33 : m_get 37 33 = some (.iconst 4, 1) := by decide +kernel
theorem g37_34 : m_get 37 34 = some (.imul, 1) := by decide +kernel
theorem g37_35 : m_get 37 35 = some (.iload_n 2, 1) := by decide +kernel
theorem g37_36 : m_get 37 36 = some (.iconst 4, 1) := by decide +kernel
theorem g37_37 : m_get 37 37 = some (.iadd, 1) := by decide +kernel
theorem g37_38 : m_get 37 38 = some (.iload_n 3, 1) := by decide +kernel
theorem g37_39 : m_get 37 39 = some (.isub, 1) := by decide +kernel
theorem g37_40 : m_get 37 40 = some (.iconst 4, 1) := by decide +kernel
theorem g37_41 : m_get 37 41 = some (.irem, 1) := by decide +kernel
theorem g37_42 : m_get 37 42 = some (.iadd, 1) := by decide +kernel
theorem g37_43 : m_get 37 43 = some (.iaload, 1) := by decide +kernel
theorem g37_44 : m_get 37 44 = some (.ireturn, 1) := by decide +kernel
theorem f37_9 : m_fl (m_own 37) 9 = some (4, 7) := by decide +kernel
theorem g38_0 : m_get 38 0 = some (.iload_n 1, 1) := by decide +kernel
theorem g38_1 : m_get 38 1 = some (.iload_n 1, 1) := by decide +kernel
theorem g38_2 : m_get 38 2 = some (.iconst 4, 1) := by decide +kernel
theorem g38_3 : m_get 38 3 = some (.irem, 1) := by decide +kernel
theorem g38_4 : m_get 38 4 = some (.isub, 1) := by decide +kernel
theorem g38_5 : m_get 38 5 = some (.istore_n 2, 1) := by decide +kernel
theorem g38_6 : m_get 38 6 = some (.iload_n 2, 1) := by decide +kernel
theorem g38_7 : m_get 38 7 = some (.iload_n 1, 1) := by decide +kernel
theorem g38_8 : m_get 38 8 = some (.if_icmp .ge 20, 3) := by decide +kernel
theorem g38_11 : m_get 38 11 = some (.aload_n 0, 1) := by decide +kernel
theorem g38_12 : m_get 38 12 = some (.iload_n 2, 1) := by decide +kernel
theorem g38_13 : m_get 38 13 = some (.iload_n 1, 1) := by decide +kernel
theorem g38_14 : m_get 38 14 = some (.invokevirtual 55, 3) := by decide +kernel
theorem g38_17 : m_get 38 17 = some (.ifCond .eq 5, 3) := by decide +kernel
theorem g38_20 : m_get 38 20 = some (.iconst 0, 1) := by decide +kernel
theorem g38_21 : m_get 38 21 = some (.ireturn, 1) := by decide +kernel
theorem g38_22 : m_get 38 22 = some (.iinc 2 1, 3) := by decide +kernel
theorem g38_25 : m_get 38 25 = some (.goto (-19), 3) := by decide +kernel
theorem g38_28 : m_get 38 28 = some (.iconst 1, 1) := by decide +kernel
theorem g38_29 : m_get 38 29 = some (.ireturn, 1) := by decide +kernel
theorem k38_55 : m_ml (m_own 38) 55 = some (0, 39) := by decide +kernel
theorem g39_0 : m_get 39 0 = some (.iconst 0, 1) := by decide +kernel
theorem g39_1 : m_get 39 1 = some (.istore_n 3, 1) := by decide +kernel
theorem g39_2 : m_get 39 2 = some (.iload_n 3, 1) := by decide +kernel
theorem g39_3 : m_get 39 3 = some (.iconst 4, 1) := by decide +kernel
theorem g39_4 : m_get 39 4 = some (.if_icmp .ge 26, 3) := by decide +kernel
theorem g39_7 : m_get 39 7 = some (.aload_n 0, 1) := by decide +kernel
theorem g39_8 : m_get 39 8 = some (.iload_n 1, 1) := by decide +kernel
theorem g39_9 : m_get 39 9 = some (.iload_n 3, 1) := by decide +kernel
theorem g39_10 : m_get 39 10 = some (.invokevirtual 59, 3) := by decide +kernel
theorem g39_13 : m_get 39 13 = some (.aload_n 0, 1) := by decide +kernel
theorem g39_14 : m_get 39 14 = some (.iload_n 2, 1) := by decide +kernel
theorem g39_15 : m_get 39 15 = some (.iload_n 3, 1) := by decide +kernel
theorem g39_16 : m_get 39 16 = some (.invokevirtual 59, 3) := by decide +kernel
theorem g39_19 : m_get 39 19 = some (.if_icmp .eq 5, 3) := by decide +kernel
theorem g39_22 : m_get 39 22 = some (.iconst 0, 1) := by decide +kernel
theorem g39_23 : m_get 39 23 = some (.ireturn, 1) := by decide +kernel
theorem g39_24 : m_get 39 24 = some (.iinc 3 1, 3) := by decide +kernel
theorem g39_27 : m_get 39 27 = some (.goto (-25), 3) := by decide +kernel
theorem g39_30 : m_get 39 30 = some (.iconst 1, 1) := by decide +kernel
theorem g39_31 : m_get 39 31 = some (.ireturn, 1) := by decide +kernel
theorem k39_59 : m_ml (m_own 39) 59 = some (0, 37) := by decide +kernel
theorem g40_0 : m_get 40 0 = some (.aload_n 0, 1) := by decide +kernel
theorem g40_1 : m_get 40 1 = some (.getfield 21, 3) := by decide +kernel
theorem g40_4 : m_get 40 4 = some (.iconst 0, 1) := by decide +kernel
theorem g40_5 : m_get 40 5 = some (.invokestatic 62, 3) := by decide +kernel
theorem g40_8 : m_get 40 8 = some (.iconst 0, 1) := by decide +kernel
theorem g40_9 : m_get 40 9 = some (.istore_n 1, 1) := by decide +kernel
theorem g40_10 : m_get 40 10 = some (.iload_n 1, 1) := by decide +kernel
theorem g40_11 : m_get 40 11 = some (.aload_n 0, 1) := by decide +kernel
theorem g40_12 : m_get 40 12 = some (.getfield 27, 3) := by decide +kernel
theorem g40_15 : m_get 40 15 = some (.iconst 4, 1) := by decide +kernel
theorem g40_16 : m_get 40 16 = some (.imul, 1) := by decide +kernel
theorem g40_17 : m_get 40 17 = some (.if_icmp .ge 52, 3) := by decide +kernel
theorem g40_20 : m_get 40 20 = some (.aload_n 0, 1) := by decide +kernel
theorem g40_21 : m_get 40 21 = some (.iload_n 1, 1) := by decide +kernel
theorem g40_22 : m_get 40 22 = some (.invokevirtual 68, 3) := by decide +kernel
theorem g40_25 : m_get 40 25 = some (.ifCond .eq 38, 3) := by decide +kernel
theorem g40_28 : m_get 40 28 = some (.iconst 0, 1) := by decide +kernel
theorem g40_29 : m_get 40 29 = some (.istore_n 2, 1) := by decide +kernel
theorem g40_30 : m_get 40 30 = some (.iload_n 2, 1) := by decide +kernel
theorem g40_31 : m_get 40 31 = some (.iconst 4, 1) := by decide +kernel
theorem g40_32 : m_get 40 32 = some (.if_icmp .ge 31, 3) := by decide +kernel
theorem g40_35 : m_get 40 35 = some (.aload_n 0, 1) := by decide +kernel
theorem g40_36 : m_get 40 36 = some (.getfield 21, 3) := by decide +kernel
theorem g40_39 : m_get 40 39 = some (.bipush 10, 2) := by decide +kernel
theorem g40_41 : m_get 40 41 = some (.iload_n 2, 1) := by decide +kernel
theorem g40_42 : m_get 40 42 = some (.imul, 1) := by decide +kernel
theorem g40_43 : m_get 40 43 = some (.aload_n 0, 1) := by decide +kernel
theorem g40_44 : m_get 40 44 = some (.iload_n 1, 1) := by decide +kernel
theorem g40_45 : m_get 40 45 = some (.iload_n 2, 1) := by decide +kernel
theorem g40_46 : m_get 40 46 = some (.invokevirtual 59, 3) := by decide +kernel
theorem g40_49 : m_get 40 49 = some (.iadd, 1) := by decide +kernel
theorem g40_50 : m_get 40 50 = some (.dup2, 1) := by decide +kernel
theorem g40_51 : m_get 40 51 = some (.iaload, 1) := by decide +kernel
theorem g40_52 : m_get 40 52 = some (.iconst 1, 1) := by decide +kernel
theorem g40_53 : m_get 40 53 = some (.iload_n 1, 1) := by decide +kernel
theorem g40_54 : m_get 40 54 = some (.ishl, 1) := by decide +kernel
theorem g40_55 : m_get 40 55 = some (.ior, 1) := by decide +kernel
theorem g40_56 : m_get 40 56 = some (.iastore, 1) := by decide +kernel
theorem g40_57 : m_get 40 57 = some (.iinc 2 1, 3) := by decide +kernel
theorem g40_60 : m_get 40 60 = some (.goto (-30), 3) := by decide +kernel
theorem g40_63 : m_get 40 63 = some (.iinc 1 1, 3) := by decide +kernel
theorem g40_66 : m_get 40 66 = some (.goto (-56), 3) := by decide +kernel
theorem g40_69 : m_get 40 69 = some (.return_, 1) := by decide +kernel
theorem f40_21 : m_fl (m_own 40) 21 = some (4, 10) := by decide +kernel
theorem f40_27 : m_fl (m_own 40) 27 = some (4, 0) := by decide +kernel
theorem k40_59 : m_ml (m_own 40) 59 = some (0, 37) := by decide +kernel
theorem k40_62 : m_ml (m_own 40) 62 = some (1, 161) := by decide +kernel
theorem k40_68 : m_ml (m_own 40) 68 = some (0, 38) := by decide +kernel
theorem g41_0 : m_get 41 0 = some (.iload_n 1, 1) := by decide +kernel
theorem g41_1 : m_get 41 1 = some (.ifCond .lt 18, 3) := by decide +kernel
theorem g41_4 : m_get 41 4 = some (.iload_n 1, 1) := by decide +kernel
theorem g41_5 : m_get 41 5 = some (.iconst 4, 1) := by decide +kernel
theorem g41_6 : m_get 41 6 = some (.if_icmp .ge 13, 3) := by decide +kernel
theorem g41_9 : m_get 41 9 = some (.iload_n 2, 1) := by decide +kernel
theorem g41_10 : m_get 41 10 = some (.ifCond .lt 9, 3) := by decide +kernel
theorem g41_13 : m_get 41 13 = some (.iload_n 2, 1) := by decide +kernel
theorem g41_14 : m_get 41 14 = some (.bipush 10, 2) := by decide +kernel
theorem g41_16 : m_get 41 16 = some (.if_icmp .lt 5, 3) := by decide +kernel
theorem g41_19 : m_get 41 19 = some (.iconst 0, 1) := by decide +kernel
theorem g41_20 : m_get 41 20 = some (.ireturn, 1) := by decide +kernel
theorem g41_21 : m_get 41 21 = some (.aload_n 0, 1) := by decide +kernel
theorem g41_22 : m_get 41 22 = some (.getfield 21, 3) := by decide +kernel
theorem g41_25 : m_get 41 25 = some (.bipush 10, 2) := by decide +kernel
theorem g41_27 : m_get 41 27 = some (.iload_n 1, 1) := by decide +kernel
theorem g41_28 : m_get 41 28 = some (.imul, 1) := by decide +kernel
theorem g41_29 : m_get 41 29 = some (.iload_n 2, 1) := by decide +kernel
theorem g41_30 : m_get 41 30 = some (.iadd, 1) := by decide +kernel
theorem g41_31 : m_get 41 31 = some (.iaload, 1) := by decide +kernel
theorem g41_32 : m_get 41 32 = some (.ireturn, 1) := by decide +kernel
theorem f41_21 : m_fl (m_own 41) 21 = some (4, 10) := by decide +kernel
theorem g42_0 : m_get 42 0 = some (.aload_n 0, 1) := by decide +kernel
theorem g42_1 : m_get 42 1 = some (.getfield 31, 3) := by decide +kernel
theorem g42_4 : m_get 42 4 = some (.iconst 1, 1) := by decide +kernel
theorem g42_5 : m_get 42 5 = some (.if_icmp .ge 6, 3) := by decide +kernel
theorem g42_8 : m_get 42 8 = some (.bipush (-9), 2) := by decide +kernel
theorem g42_10 : m_get 42 10 = some (.ireturn, 1) := by decide +kernel
theorem g42_11 : m_get 42 11 = some (.iload_n 1, 1) := by decide +kernel
theorem g42_12 : m_get 42 12 = some (.aload_n 0, 1) := by decide +kernel
theorem g42_13 : m_get 42 13 = some (.getfield 31, 3) := by decide +kernel
theorem g42_16 : m_get 42 16 = some (.irem, 1) := by decide +kernel
theorem g42_17 : m_get 42 17 = some (.istore_n 3, 1) := by decide +kernel
theorem g42_18 : m_get 42 18 = some (.iload_n 1, 1) := by decide +kernel
theorem g42_19 : m_get 42 19 = some (.aload_n 0, 1) := by decide +kernel
theorem g42_20 : m_get 42 20 = some (.getfield 31, 3) := by decide +kernel
theorem g42_23 : m_get 42 23 = some (.idiv, 1) := by decide +kernel
theorem g42_24 : m_get 42 24 = some (.istore 4, 2) := by decide +kernel
theorem g42_26 : m_get 42 26 = some (.iload_n 2, 1) := by decide +kernel
theorem g42_27 : m_get 42 27 = some (.tableswitch 84 0 2 #[25, 42, 61], 25) := by decide +kernel
theorem g42_52 : m_get 42 52 = some (.iload 4, 2) := by decide +kernel
theorem g42_54 : m_get 42 54 = some (.ifCond .le 12, 3) := by decide +kernel
theorem g42_57 : m_get 42 57 = some (.iload_n 1, 1) := by decide +kernel
theorem g42_58 : m_get 42 58 = some (.aload_n 0, 1) := by decide +kernel
theorem g42_59 : m_get 42 59 = some (.getfield 31, 3) := by decide +kernel
theorem g42_62 : m_get 42 62 = some (.isub, 1) := by decide +kernel
theorem g42_63 : m_get 42 63 = some (.goto 5, 3) := by decide +kernel
theorem g42_66 : m_get 42 66 = some (.bipush (-9), 2) := by decide +kernel
theorem g42_68 : m_get 42 68 = some (.ireturn, 1) := by decide +kernel
theorem g42_69 : m_get 42 69 = some (.iload_n 3, 1) := by decide +kernel
theorem g42_70 : m_get 42 70 = some (.aload_n 0, 1) := by decide +kernel
theorem g42_71 : m_get 42 71 = some (.getfield 31, 3) := by decide +kernel
theorem g42_74 : m_get 42 74 = some (.iconst 1, 1) := by decide +kernel
theorem g42_75 : m_get 42 75 = some (.isub, 1) := by decide +kernel
theorem g42_76 : m_get 42 76 = some (.if_icmp .ge 9, 3) := by decide +kernel
theorem g42_79 : m_get 42 79 = some (.iload_n 1, 1) := by decide +kernel
theorem g42_80 : m_get 42 80 = some (.iconst 1, 1) := by decide +kernel
theorem g42_81 : m_get 42 81 = some (.iadd, 1) := by decide +kernel
theorem g42_82 : m_get 42 82 = some (.goto 5, 3) := by decide +kernel
theorem g42_85 : m_get 42 85 = some (.bipush (-9), 2) := by decide +kernel
theorem g42_87 : m_get 42 87 = some (.ireturn, 1) := by decide +kernel
theorem g42_88 : m_get 42 88 = some (.iload 4, 2) := by decide +kernel
theorem g42_90 : m_get 42 90 = some (.aload_n 0, 1) := by decide +kernel
theorem g42_91 : m_get 42 91 = some (.getfield 34, 3) := by decide +kernel
theorem g42_94 : m_get 42 94 = some (.iconst 1, 1) := by decide +kernel
theorem g42_95 : m_get 42 95 = some (.isub, 1) := by decide +kernel
theorem g42_96 : m_get 42 96 = some (.if_icmp .ge 12, 3) := by decide +kernel
theorem g42_99 : m_get 42 99 = some (.iload_n 1, 1) := by decide +kernel
theorem g42_100 : m_get 42 100 = some (.aload_n 0, 1) := by decide +kernel
theorem g42_101 : m_get 42 101 = some (.getfield 31, 3) := by decide +kernel
theorem g42_104 : m_get 42 104 = some (.iadd, 1) := by decide +kernel
theorem g42_105 : m_get 42 105 = some (.goto 5, 3) := by decide +kernel
theorem g42_108 : m_get 42 108 = some (.bipush (-9), 2) := by decide +kernel
theorem g42_110 : m_get 42 110 = some (.ireturn, 1) := by decide +kernel
theorem g42_111 : m_get 42 111 = some (.iload_n 3, 1) := by decide +kernel
theorem g42_112 : m_get 42 112 = some (.ifCond .le 9, 3) := by decide +kernel
theorem g42_115 : m_get 42 115 = some (.iload_n 1, 1) := by decide +kernel
theorem g42_116 : m_get 42 116 = some (.iconst 1, 1) := by decide +kernel
theorem g42_117 : m_get 42 117 = some (.isub, 1) := by decide +kernel
theorem g42_118 : m_get 42 118 = some (.goto 5, 3) := by decide +kernel
theorem g42_121 : m_get 42 121 = some (.bipush (-9), 2) := by decide +kernel
theorem g42_123 : m_get 42 123 = some (.ireturn, 1) := by decide +kernel
theorem f42_31 : m_fl (m_own 42) 31 = some (4, 1) := by decide +kernel
theorem f42_34 : m_fl (m_own 42) 34 = some (4, 2) := by decide +kernel
theorem g43_0 : m_get 43 0 = some (.iconst 0, 1) := by decide +kernel
theorem g43_1 : m_get 43 1 = some (.istore_n 2, 1) := by decide +kernel
theorem g43_2 : m_get 43 2 = some (.iload_n 2, 1) := by decide +kernel
theorem g43_3 : m_get 43 3 = some (.iload_n 1, 1) := by decide +kernel
theorem g43_4 : m_get 43 4 = some (.if_icmp .ge 26, 3) := by decide +kernel
theorem g43_7 : m_get 43 7 = some (.aload_n 0, 1) := by decide +kernel
theorem g43_8 : m_get 43 8 = some (.getfield 15, 3) := by decide +kernel
theorem g43_11 : m_get 43 11 = some (.iload_n 2, 1) := by decide +kernel
theorem g43_12 : m_get 43 12 = some (.iaload, 1) := by decide +kernel
theorem g43_13 : m_get 43 13 = some (.aload_n 0, 1) := by decide +kernel
theorem g43_14 : m_get 43 14 = some (.getfield 15, 3) := by decide +kernel
theorem g43_17 : m_get 43 17 = some (.iload_n 1, 1) := by decide +kernel
theorem g43_18 : m_get 43 18 = some (.iaload, 1) := by decide +kernel
theorem g43_19 : m_get 43 19 = some (.if_icmp .ne 5, 3) := by decide +kernel
theorem g43_22 : m_get 43 22 = some (.iconst 0, 1) := by decide +kernel
theorem g43_23 : m_get 43 23 = some (.ireturn, 1) := by decide +kernel
theorem g43_24 : m_get 43 24 = some (.iinc 2 1, 3) := by decide +kernel
theorem g43_27 : m_get 43 27 = some (.goto (-25), 3) := by decide +kernel
theorem g43_30 : m_get 43 30 = some (.iconst 1, 1) := by decide +kernel
theorem g43_31 : m_get 43 31 = some (.ireturn, 1) := by decide +kernel
theorem f43_15 : m_fl (m_own 43) 15 = some (4, 8) := by decide +kernel
theorem g44_0 : m_get 44 0 = some (.iconst 0, 1) := by decide +kernel
theorem g44_1 : m_get 44 1 = some (.istore_n 1, 1) := by decide +kernel
theorem g44_2 : m_get 44 2 = some (.iconst 0, 1) := by decide +kernel
theorem g44_3 : m_get 44 3 = some (.istore_n 2, 1) := by decide +kernel
theorem g44_4 : m_get 44 4 = some (.iload_n 2, 1) := by decide +kernel
theorem g44_5 : m_get 44 5 = some (.aload_n 0, 1) := by decide +kernel
theorem g44_6 : m_get 44 6 = some (.getfield 27, 3) := by decide +kernel
theorem g44_9 : m_get 44 9 = some (.if_icmp .ge 20, 3) := by decide +kernel
theorem g44_12 : m_get 44 12 = some (.aload_n 0, 1) := by decide +kernel
theorem g44_13 : m_get 44 13 = some (.iload_n 2, 1) := by decide +kernel
theorem g44_14 : m_get 44 14 = some (.invokevirtual 72, 3) := by decide +kernel
theorem g44_17 : m_get 44 17 = some (.ifCond .eq 6, 3) := by decide +kernel
theorem g44_20 : m_get 44 20 = some (.iinc 1 1, 3) := by decide +kernel
theorem g44_23 : m_get 44 23 = some (.iinc 2 1, 3) := by decide +kernel
theorem g44_26 : m_get 44 26 = some (.goto (-22), 3) := by decide +kernel
theorem g44_29 : m_get 44 29 = some (.iload_n 1, 1) := by decide +kernel
theorem g44_30 : m_get 44 30 = some (.ireturn, 1) := by decide +kernel
theorem f44_27 : m_fl (m_own 44) 27 = some (4, 0) := by decide +kernel
theorem k44_72 : m_ml (m_own 44) 72 = some (0, 43) := by decide +kernel
theorem g45_0 : m_get 45 0 = some (.iconst 0, 1) := by decide +kernel
theorem g45_1 : m_get 45 1 = some (.istore_n 2, 1) := by decide +kernel
theorem g45_2 : m_get 45 2 = some (.iconst 0, 1) := by decide +kernel
theorem g45_3 : m_get 45 3 = some (.istore_n 3, 1) := by decide +kernel
theorem g45_4 : m_get 45 4 = some (.iload_n 3, 1) := by decide +kernel
theorem g45_5 : m_get 45 5 = some (.aload_n 0, 1) := by decide +kernel
theorem g45_6 : m_get 45 6 = some (.getfield 27, 3) := by decide +kernel
theorem g45_9 : m_get 45 9 = some (.if_icmp .ge 32, 3) := by decide +kernel
theorem g45_12 : m_get 45 12 = some (.aload_n 0, 1) := by decide +kernel
theorem g45_13 : m_get 45 13 = some (.iload_n 3, 1) := by decide +kernel
theorem g45_14 : m_get 45 14 = some (.invokevirtual 72, 3) := by decide +kernel
theorem g45_17 : m_get 45 17 = some (.ifCond .eq 18, 3) := by decide +kernel
theorem g45_20 : m_get 45 20 = some (.iload_n 2, 1) := by decide +kernel
theorem g45_21 : m_get 45 21 = some (.iload_n 1, 1) := by decide +kernel
theorem g45_22 : m_get 45 22 = some (.if_icmp .ne 10, 3) := by decide +kernel
theorem g45_25 : m_get 45 25 = some (.aload_n 0, 1) := by decide +kernel
theorem g45_26 : m_get 45 26 = some (.getfield 15, 3) := by decide +kernel
theorem g45_29 : m_get 45 29 = some (.iload_n 3, 1) := by decide +kernel
theorem g45_30 : m_get 45 30 = some (.iaload, 1) := by decide +kernel
theorem g45_31 : m_get 45 31 = some (.ireturn, 1) := by decide +kernel
theorem g45_32 : m_get 45 32 = some (.iinc 2 1, 3) := by decide +kernel
theorem g45_35 : m_get 45 35 = some (.iinc 3 1, 3) := by decide +kernel
theorem g45_38 : m_get 45 38 = some (.goto (-34), 3) := by decide +kernel
theorem g45_41 : m_get 45 41 = some (.bipush (-9), 2) := by decide +kernel
theorem g45_43 : m_get 45 43 = some (.ireturn, 1) := by decide +kernel
theorem f45_15 : m_fl (m_own 45) 15 = some (4, 8) := by decide +kernel
theorem f45_27 : m_fl (m_own 45) 27 = some (4, 0) := by decide +kernel
theorem k45_72 : m_ml (m_own 45) 72 = some (0, 43) := by decide +kernel
theorem g46_0 : m_get 46 0 = some (.iconst 0, 1) := by decide +kernel
theorem g46_1 : m_get 46 1 = some (.istore_n 2, 1) := by decide +kernel
theorem g46_2 : m_get 46 2 = some (.iconst 0, 1) := by decide +kernel
theorem g46_3 : m_get 46 3 = some (.istore_n 3, 1) := by decide +kernel
theorem g46_4 : m_get 46 4 = some (.iload_n 3, 1) := by decide +kernel
theorem g46_5 : m_get 46 5 = some (.aload_n 0, 1) := by decide +kernel
theorem g46_6 : m_get 46 6 = some (.getfield 27, 3) := by decide +kernel
theorem g46_9 : m_get 46 9 = some (.if_icmp .ge 22, 3) := by decide +kernel
theorem g46_12 : m_get 46 12 = some (.aload_n 0, 1) := by decide +kernel
theorem g46_13 : m_get 46 13 = some (.getfield 15, 3) := by decide +kernel
theorem g46_16 : m_get 46 16 = some (.iload_n 3, 1) := by decide +kernel
theorem g46_17 : m_get 46 17 = some (.iaload, 1) := by decide +kernel
theorem g46_18 : m_get 46 18 = some (.iload_n 1, 1) := by decide +kernel
theorem g46_19 : m_get 46 19 = some (.if_icmp .ne 6, 3) := by decide +kernel
theorem g46_22 : m_get 46 22 = some (.iinc 2 1, 3) := by decide +kernel
theorem g46_25 : m_get 46 25 = some (.iinc 3 1, 3) := by decide +kernel
theorem g46_28 : m_get 46 28 = some (.goto (-24), 3) := by decide +kernel
theorem g46_31 : m_get 46 31 = some (.iload_n 2, 1) := by decide +kernel
theorem g46_32 : m_get 46 32 = some (.ireturn, 1) := by decide +kernel
theorem f46_15 : m_fl (m_own 46) 15 = some (4, 8) := by decide +kernel
theorem f46_27 : m_fl (m_own 46) 27 = some (4, 0) := by decide +kernel
theorem g47_0 : m_get 47 0 = some (.aload_n 0, 1) := by decide +kernel
theorem g47_1 : m_get 47 1 = some (.invokespecial 3, 3) := by decide +kernel
theorem g47_4 : m_get 47 4 = some (.aload_n 0, 1) := by decide +kernel
theorem g47_5 : m_get 47 5 = some (.bipush 6, 2) := by decide +kernel
theorem g47_7 : m_get 47 7 = some (.newarray .int, 2) := by decide +kernel
theorem g47_9 : m_get 47 9 = some (.putfield 9, 3) := by decide +kernel
theorem g47_12 : m_get 47 12 = some (.return_, 1) := by decide +kernel
theorem f47_9 : m_fl (m_own 47) 9 = some (5, 0) := by decide +kernel
theorem k47_3 : m_ml (m_own 47) 3 = some (5, 0) := by decide +kernel
theorem g48_0 : m_get 48 0 = some (.aload_n 1, 1) := by decide +kernel
theorem g48_1 : m_get 48 1 = some (.aload_n 2, 1) := by decide +kernel
theorem g48_2 : m_get 48 2 = some (.invokestatic 15, 3) := by decide +kernel
theorem g48_5 : m_get 48 5 = some (.istore_n 3, 1) := by decide +kernel
theorem g48_6 : m_get 48 6 = some (.iconst 0, 1) := by decide +kernel
theorem g48_7 : m_get 48 7 = some (.istore 4, 2) := by decide +kernel
theorem g48_9 : m_get 48 9 = some (.iload 4, 2) := by decide +kernel
theorem g48_11 : m_get 48 11 = some (.bipush 6, 2) := by decide +kernel
theorem g48_13 : m_get 48 13 = some (.if_icmp .ge 59, 3) := by decide +kernel
theorem g48_16 : m_get 48 16 = some (.iload 4, 2) := by decide +kernel
theorem g48_18 : m_get 48 18 = some (.aload_n 1, 1) := by decide +kernel
theorem g48_19 : m_get 48 19 = some (.invokevirtual 19, 3) := by decide +kernel
theorem g48_22 : m_get 48 22 = some (.if_icmp .ge 16, 3) := by decide +kernel
theorem g48_25 : m_get 48 25 = some (.aload_n 2, 1) := by decide +kernel
theorem g48_26 : m_get 48 26 = some (.iload 4, 2) := by decide +kernel
theorem g48_28 : m_get 48 28 = some (.invokevirtual 25, 3) := by decide +kernel
theorem g48_31 : m_get 48 31 = some (.ifCond .eq 7, 3) := by decide +kernel
theorem g48_34 : m_get 48 34 = some (.iconst 1, 1) := by decide +kernel
theorem g48_35 : m_get 48 35 = some (.goto 4, 3) := by decide +kernel
theorem g48_38 : m_get 48 38 = some (.iconst 0, 1) := by decide +kernel
theorem g48_39 : m_get 48 39 = some (.istore 5, 2) := by decide +kernel
theorem g48_41 : m_get 48 41 = some (.aload_n 0, 1) := by decide +kernel
theorem g48_42 : m_get 48 42 = some (.getfield 9, 3) := by decide +kernel
theorem g48_45 : m_get 48 45 = some (.iload 4, 2) := by decide +kernel
theorem g48_47 : m_get 48 47 = some (.iload 5, 2) := by decide +kernel
theorem g48_49 : m_get 48 49 = some (.ifCond .eq 15, 3) := by decide +kernel
theorem g48_52 : m_get 48 52 = some (.iload_n 3, 1) := by decide +kernel
theorem g48_53 : m_get 48 53 = some (.aload_n 1, 1) := by decide +kernel
theorem g48_54 : m_get 48 54 = some (.aload_n 2, 1) := by decide +kernel
theorem g48_55 : m_get 48 55 = some (.iload 4, 2) := by decide +kernel
theorem g48_57 : m_get 48 57 = some (.invokestatic 31, 3) := by decide +kernel
theorem g48_60 : m_get 48 60 = some (.iand, 1) := by decide +kernel
theorem g48_61 : m_get 48 61 = some (.goto 4, 3) := by decide +kernel
theorem g48_64 : m_get 48 64 = some (.iconst 0, 1) := by decide +kernel
theorem g48_65 : m_get 48 65 = some (.iastore, 1) := by decide +kernel
theorem g48_66 : m_get 48 66 = some (.iinc 4 1, 3) := by decide +kernel
theorem g48_69 : m_get 48 69 = some (.goto (-60), 3) := by decide +kernel
theorem g48_72 : m_get 48 72 = some (.return_, 1) := by decide +kernel
theorem f48_9 : m_fl (m_own 48) 9 = some (5, 0) := by decide +kernel
theorem k48_15 : m_ml (m_own 48) 15 = some (1, 50) := by decide +kernel
theorem k48_19 : m_ml (m_own 48) 19 = some (0, 36) := by decide +kernel
theorem k48_25 : m_ml (m_own 48) 25 = some (0, 17) := by decide +kernel
theorem k48_31 : m_ml (m_own 48) 31 = some (1, 51) := by decide +kernel
theorem g49_0 : m_get 49 0 = some (.iconst 1, 1) := by decide +kernel
theorem g49_1 : m_get 49 1 = some (.istore_n 3, 1) := by decide +kernel
theorem g49_2 : m_get 49 2 = some (.iconst 0, 1) := by decide +kernel
theorem g49_3 : m_get 49 3 = some (.istore 4, 2) := by decide +kernel
theorem g49_5 : m_get 49 5 = some (.iload_n 3, 1) := by decide +kernel
theorem g49_6 : m_get 49 6 = some (.ifCond .eq 95, 3) := by decide +kernel
theorem g49_9 : m_get 49 9 = some (.iload 4, 2) := by decide +kernel
theorem g49_11 : m_get 49 11 = some (.sipush 144, 3) := by decide +kernel
theorem g49_14 : m_get 49 14 = some (.if_icmp .gt 87, 3) := by decide +kernel
theorem g49_17 : m_get 49 17 = some (.iconst 0, 1) := by decide +kernel
theorem g49_18 : m_get 49 18 = some (.istore_n 3, 1) := by decide +kernel
theorem g49_19 : m_get 49 19 = some (.iconst 0, 1) := by decide +kernel
theorem g49_20 : m_get 49 20 = some (.istore 5, 2) := by decide +kernel
theorem g49_22 : m_get 49 22 = some (.iload 5, 2) := by decide +kernel
theorem g49_24 : m_get 49 24 = some (.aload_n 1, 1) := by decide +kernel
theorem g49_25 : m_get 49 25 = some (.invokevirtual 19, 3) := by decide +kernel
theorem g49_28 : m_get 49 28 = some (.if_icmp .ge 67, 3) := by decide +kernel
theorem g49_31 : m_get 49 31 = some (.aload_n 2, 1) := by decide +kernel
theorem g49_32 : m_get 49 32 = some (.iload 5, 2) := by decide +kernel
theorem g49_34 : m_get 49 34 = some (.invokevirtual 25, 3) := by decide +kernel
theorem g49_37 : m_get 49 37 = some (.ifCond .eq 52, 3) := by decide +kernel
theorem g49_40 : m_get 49 40 = some (.aload_n 0, 1) := by decide +kernel
theorem g49_41 : m_get 49 41 = some (.getfield 9, 3) := by decide +kernel
theorem g49_44 : m_get 49 44 = some (.iload 5, 2) := by decide +kernel
theorem g49_46 : m_get 49 46 = some (.iaload, 1) := by decide +kernel
theorem g49_47 : m_get 49 47 = some (.aload_n 0, 1) := by decide +kernel
theorem g49_48 : m_get 49 48 = some (.aload_n 1, 1) := by decide +kernel
theorem g49_49 : m_get 49 49 = some (.aload_n 2, 1) := by decide +kernel
theorem g49_50 : m_get 49 50 = some (.iload 5, 2) := by decide +kernel
theorem g49_52 : m_get 49 52 = some (.invokevirtual 35, 3) := by decide +kernel
theorem g49_55 : m_get 49 55 = some (.iand, 1) := by decide +kernel
theorem g49_56 : m_get 49 56 = some (.istore 6, 2) := by decide +kernel
theorem g49_58 : m_get 49 58 = some (.iload_n 3, 1) := by decide +kernel
theorem g49_59 : m_get 49 59 = some (.ifCond .ne 15, 3) := by decide +kernel
theorem g49_62 : m_get 49 62 = some (.iload 6, 2) := by decide +kernel
theorem g49_64 : m_get 49 64 = some (.aload_n 0, 1) := by decide +kernel
theorem g49_65 : m_get 49 65 = some (.getfield 9, 3) := by decide +kernel
theorem g49_68 : m_get 49 68 = some (.iload 5, 2) := by decide +kernel
theorem g49_70 : m_get 49 70 = some (.iaload, 1) := by decide +kernel
theorem g49_71 : m_get 49 71 = some (.if_icmp .eq 7, 3) := by decide +kernel
theorem g49_74 : m_get 49 74 = some (.iconst 1, 1) := by decide +kernel
theorem g49_75 : m_get 49 75 = some (.goto 4, 3) := by decide +kernel
theorem g49_78 : m_get 49 78 = some (.iconst 0, 1) := by decide +kernel
theorem g49_79 : m_get 49 79 = some (.istore_n 3, 1) := by decide +kernel
theorem g49_80 : m_get 49 80 = some (.aload_n 0, 1) := by decide +kernel
theorem g49_81 : m_get 49 81 = some (.getfield 9, 3) := by decide +kernel
theorem g49_84 : m_get 49 84 = some (.iload 5, 2) := by decide +kernel
theorem g49_86 : m_get 49 86 = some (.iload 6, 2) := by decide +kernel
theorem g49_88 : m_get 49 88 = some (.iastore, 1) := by decide +kernel
theorem g49_89 : m_get 49 89 = some (.iinc 5 1, 3) := by decide +kernel
theorem g49_92 : m_get 49 92 = some (.goto (-70), 3) := by decide +kernel
theorem g49_95 : m_get 49 95 = some (.iinc 4 1, 3) := by decide +kernel
theorem g49_98 : m_get 49 98 = some (.goto (-93), 3) := by decide +kernel
theorem g49_101 : m_get 49 101 = some (.return_, 1) := by decide +kernel
theorem f49_9 : m_fl (m_own 49) 9 = some (5, 0) := by decide +kernel
theorem k49_19 : m_ml (m_own 49) 19 = some (0, 36) := by decide +kernel
theorem k49_25 : m_ml (m_own 49) 25 = some (0, 17) := by decide +kernel
theorem k49_35 : m_ml (m_own 49) 35 = some (0, 52) := by decide +kernel
theorem g50_0 : m_get 50 0 = some (.iconst 0, 1) := by decide +kernel
theorem g50_1 : m_get 50 1 = some (.istore_n 2, 1) := by decide +kernel
theorem g50_2 : m_get 50 2 = some (.iconst 0, 1) := by decide +kernel
theorem g50_3 : m_get 50 3 = some (.istore_n 3, 1) := by decide +kernel
theorem g50_4 : m_get 50 4 = some (.iload_n 3, 1) := by decide +kernel
theorem g50_5 : m_get 50 5 = some (.aload_n 0, 1) := by decide +kernel
theorem g50_6 : m_get 50 6 = some (.getfield 38, 3) := by decide +kernel
theorem g50_9 : m_get 50 9 = some (.if_icmp .ge 44, 3) := by decide +kernel
theorem g50_12 : m_get 50 12 = some (.aload_n 1, 1) := by decide +kernel
theorem g50_13 : m_get 50 13 = some (.iload_n 3, 1) := by decide +kernel
theorem g50_14 : m_get 50 14 = some (.invokevirtual 42, 3) := by decide +kernel
theorem g50_17 : m_get 50 17 = some (.ifCond .le 30, 3) := by decide +kernel
theorem g50_20 : m_get 50 20 = some (.aload_n 1, 1) := by decide +kernel
theorem g50_21 : m_get 50 21 = some (.aload_n 0, 1) := by decide +kernel
theorem g50_22 : m_get 50 22 = some (.aload_n 0, 1) := by decide +kernel
theorem g50_23 : m_get 50 23 = some (.getfield 46, 3) := by decide +kernel
theorem g50_26 : m_get 50 26 = some (.iload_n 3, 1) := by decide +kernel
theorem g50_27 : m_get 50 27 = some (.iaload, 1) := by decide +kernel
theorem g50_28 : m_get 50 28 = some (.invokevirtual 49, 3) := by decide +kernel
theorem g50_31 : m_get 50 31 = some (.aload_n 0, 1) := by decide +kernel
theorem g50_32 : m_get 50 32 = some (.getfield 53, 3) := by decide +kernel
theorem g50_35 : m_get 50 35 = some (.if_icmp .ge 12, 3) := by decide +kernel
theorem g50_38 : m_get 50 38 = some (.iload_n 2, 1) := by decide +kernel
theorem g50_39 : m_get 50 39 = some (.bipush 15, 2) := by decide +kernel
theorem g50_41 : m_get 50 41 = some (.iload_n 3, 1) := by decide +kernel
theorem g50_42 : m_get 50 42 = some (.iconst 4, 1) := by decide +kernel
theorem g50_43 : m_get 50 43 = some (.imul, 1) := by decide +kernel
theorem g50_44 : m_get 50 44 = some (.ishl, 1) := by decide +kernel
theorem g50_45 : m_get 50 45 = some (.ior, 1) := by decide +kernel
theorem g50_46 : m_get 50 46 = some (.istore_n 2, 1) := by decide +kernel
theorem g50_47 : m_get 50 47 = some (.iinc 3 1, 3) := by decide +kernel
theorem g50_50 : m_get 50 50 = some (.goto (-46), 3) := by decide +kernel
theorem g50_53 : m_get 50 53 = some (.iload_n 2, 1) := by decide +kernel
theorem g50_54 : m_get 50 54 = some (.ireturn, 1) := by decide +kernel
theorem f50_38 : m_fl (m_own 50) 38 = some (4, 0) := by decide +kernel
theorem f50_46 : m_fl (m_own 50) 46 = some (4, 8) := by decide +kernel
theorem f50_53 : m_fl (m_own 50) 53 = some (4, 4) := by decide +kernel
theorem k50_42 : m_ml (m_own 50) 42 = some (0, 18) := by decide +kernel
theorem k50_49 : m_ml (m_own 50) 49 = some (0, 19) := by decide +kernel
theorem g51_0 : m_get 51 0 = some (.iconst 0, 1) := by decide +kernel
theorem g51_1 : m_get 51 1 = some (.istore_n 3, 1) := by decide +kernel
theorem g51_2 : m_get 51 2 = some (.iconst 0, 1) := by decide +kernel
theorem g51_3 : m_get 51 3 = some (.istore 4, 2) := by decide +kernel
theorem g51_5 : m_get 51 5 = some (.iload 4, 2) := by decide +kernel
theorem g51_7 : m_get 51 7 = some (.bipush 10, 2) := by decide +kernel
theorem g51_9 : m_get 51 9 = some (.if_icmp .ge 19, 3) := by decide +kernel
theorem g51_12 : m_get 51 12 = some (.iload_n 3, 1) := by decide +kernel
theorem g51_13 : m_get 51 13 = some (.aload_n 0, 1) := by decide +kernel
theorem g51_14 : m_get 51 14 = some (.iconst 0, 1) := by decide +kernel
theorem g51_15 : m_get 51 15 = some (.iload 4, 2) := by decide +kernel
theorem g51_17 : m_get 51 17 = some (.invokevirtual 56, 3) := by decide +kernel
theorem g51_20 : m_get 51 20 = some (.ior, 1) := by decide +kernel
theorem g51_21 : m_get 51 21 = some (.istore_n 3, 1) := by decide +kernel
theorem g51_22 : m_get 51 22 = some (.iinc 4 1, 3) := by decide +kernel
theorem g51_25 : m_get 51 25 = some (.goto (-20), 3) := by decide +kernel
theorem g51_28 : m_get 51 28 = some (.iconst 0, 1) := by decide +kernel
theorem g51_29 : m_get 51 29 = some (.istore 4, 2) := by decide +kernel
theorem g51_31 : m_get 51 31 = some (.iload 4, 2) := by decide +kernel
theorem g51_33 : m_get 51 33 = some (.iconst 4, 1) := by decide +kernel
theorem g51_34 : m_get 51 34 = some (.if_icmp .ge 93, 3) := by decide +kernel
theorem g51_37 : m_get 51 37 = some (.aload_n 0, 1) := by decide +kernel
theorem g51_38 : m_get 51 38 = some (.iload_n 2, 1) := by decide +kernel
theorem g51_39 : m_get 51 39 = some (.iload 4, 2) := by decide +kernel
theorem g51_41 : m_get 51 41 = some (.invokevirtual 60, 3) := by decide +kernel
theorem g51_44 : m_get 51 44 = some (.istore 5, 2) := by decide +kernel
theorem g51_46 : m_get 51 46 = some (.iload 5, 2) := by decide +kernel
theorem g51_48 : m_get 51 48 = some (.ifCond .lt 10, 3) := by decide +kernel
theorem g51_51 : m_get 51 51 = some (.iload 5, 2) := by decide +kernel
theorem g51_53 : m_get 51 53 = some (.bipush 6, 2) := by decide +kernel
theorem g51_55 : m_get 51 55 = some (.if_icmp .lt 32, 3) := by decide +kernel
theorem g51_58 : m_get 51 58 = some (.iload_n 3, 1) := by decide +kernel
theorem g51_59 : m_get 51 59 = some (.aload_n 0, 1) := by decide +kernel
theorem g51_60 : m_get 51 60 = some (.getfield 63, 3) := by decide +kernel
theorem g51_63 : m_get 51 63 = some (.bipush (-9), 2) := by decide +kernel
theorem g51_65 : m_get 51 65 = some (.if_icmp .ne 7, 3) := by decide +kernel
theorem g51_68 : m_get 51 68 = some (.iload_n 3, 1) := by decide +kernel
theorem g51_69 : m_get 51 69 = some (.goto 13, 3) := by decide +kernel
theorem g51_72 : m_get 51 72 = some (.aload_n 0, 1) := by decide +kernel
theorem g51_73 : m_get 51 73 = some (.iload 4, 2) := by decide +kernel
theorem g51_75 : m_get 51 75 = some (.aload_n 0, 1) := by decide +kernel
theorem g51_76 : m_get 51 76 = some (.getfield 63, 3) := by decide +kernel
theorem g51_79 : m_get 51 79 = some (.invokevirtual 56, 3) := by decide +kernel
theorem g51_82 : m_get 51 82 = some (.iand, 1) := by decide +kernel
theorem g51_83 : m_get 51 83 = some (.istore_n 3, 1) := by decide +kernel
theorem g51_84 : m_get 51 84 = some (.goto 37, 3) := by decide +kernel
theorem g51_87 : m_get 51 87 = some (.aload_n 1, 1) := by decide +kernel
theorem g51_88 : m_get 51 88 = some (.iload 5, 2) := by decide +kernel
theorem g51_90 : m_get 51 90 = some (.invokevirtual 25, 3) := by decide +kernel
theorem g51_93 : m_get 51 93 = some (.ifCond .ne 28, 3) := by decide +kernel
theorem g51_96 : m_get 51 96 = some (.iload_n 3, 1) := by decide +kernel
theorem g51_97 : m_get 51 97 = some (.aload_n 0, 1) := by decide +kernel
theorem g51_98 : m_get 51 98 = some (.iload 4, 2) := by decide +kernel
theorem g51_100 : m_get 51 100 = some (.aload_n 0, 1) := by decide +kernel
theorem g51_101 : m_get 51 101 = some (.aload_n 1, 1) := by decide +kernel
theorem g51_102 : m_get 51 102 = some (.getfield 66, 3) := by decide +kernel
theorem g51_105 : m_get 51 105 = some (.iload 5, 2) := by decide +kernel
theorem g51_107 : m_get 51 107 = some (.iaload, 1) := by decide +kernel
theorem g51_108 : m_get 51 108 = some (.iload 4, 2) := by decide +kernel
theorem g51_110 : m_get 51 110 = some (.invokestatic 69, 3) := by decide +kernel
theorem g51_113 : m_get 51 113 = some (.invokevirtual 72, 3) := by decide +kernel
theorem g51_116 : m_get 51 116 = some (.invokevirtual 56, 3) := by decide +kernel
theorem g51_119 : m_get 51 119 = some (.iand, 1) := by decide +kernel
theorem g51_120 : m_get 51 120 = some (.istore_n 3, 1) := by decide +kernel
theorem g51_121 : m_get 51 121 = some (.iinc 4 1, 3) := by decide +kernel
theorem g51_124 : m_get 51 124 = some (.goto (-93), 3) := by decide +kernel
theorem g51_127 : m_get 51 127 = some (.iload_n 3, 1) := by decide +kernel
theorem g51_128 : m_get 51 128 = some (.ireturn, 1) := by decide +kernel
theorem f51_63 : m_fl (m_own 51) 63 = some (4, 3) := by decide +kernel
theorem f51_66 : m_fl (m_own 51) 66 = some (2, 0) := by decide +kernel
theorem k51_25 : m_ml (m_own 51) 25 = some (0, 17) := by decide +kernel
theorem k51_56 : m_ml (m_own 51) 56 = some (0, 41) := by decide +kernel
theorem k51_60 : m_ml (m_own 51) 60 = some (0, 42) := by decide +kernel
theorem k51_69 : m_ml (m_own 51) 69 = some (3, 96) := by decide +kernel
theorem k51_72 : m_ml (m_own 51) 72 = some (0, 37) := by decide +kernel
theorem g52_0 : m_get 52 0 = some (.aload_n 0, 1) := by decide +kernel
theorem g52_1 : m_get 52 1 = some (.getfield 9, 3) := by decide +kernel
theorem g52_4 : m_get 52 4 = some (.iload_n 3, 1) := by decide +kernel
theorem g52_5 : m_get 52 5 = some (.iaload, 1) := by decide +kernel
theorem g52_6 : m_get 52 6 = some (.istore 4, 2) := by decide +kernel
theorem g52_8 : m_get 52 8 = some (.iconst 0, 1) := by decide +kernel
theorem g52_9 : m_get 52 9 = some (.istore 5, 2) := by decide +kernel
theorem g52_11 : m_get 52 11 = some (.iload 5, 2) := by decide +kernel
theorem g52_13 : m_get 52 13 = some (.iconst 4, 1) := by decide +kernel
theorem g52_14 : m_get 52 14 = some (.if_icmp .ge 57, 3) := by decide +kernel
theorem g52_17 : m_get 52 17 = some (.aload_n 1, 1) := by decide +kernel
theorem g52_18 : m_get 52 18 = some (.iload_n 3, 1) := by decide +kernel
theorem g52_19 : m_get 52 19 = some (.iload 5, 2) := by decide +kernel
theorem g52_21 : m_get 52 21 = some (.invokevirtual 60, 3) := by decide +kernel
theorem g52_24 : m_get 52 24 = some (.istore 6, 2) := by decide +kernel
theorem g52_26 : m_get 52 26 = some (.iload 6, 2) := by decide +kernel
theorem g52_28 : m_get 52 28 = some (.ifCond .lt 37, 3) := by decide +kernel
theorem g52_31 : m_get 52 31 = some (.iload 6, 2) := by decide +kernel
theorem g52_33 : m_get 52 33 = some (.bipush 6, 2) := by decide +kernel
theorem g52_35 : m_get 52 35 = some (.if_icmp .ge 30, 3) := by decide +kernel
theorem g52_38 : m_get 52 38 = some (.aload_n 2, 1) := by decide +kernel
theorem g52_39 : m_get 52 39 = some (.iload 6, 2) := by decide +kernel
theorem g52_41 : m_get 52 41 = some (.invokevirtual 25, 3) := by decide +kernel
theorem g52_44 : m_get 52 44 = some (.ifCond .eq 21, 3) := by decide +kernel
theorem g52_47 : m_get 52 47 = some (.iload 4, 2) := by decide +kernel
theorem g52_49 : m_get 52 49 = some (.aload_n 1, 1) := by decide +kernel
theorem g52_50 : m_get 52 50 = some (.aload_n 0, 1) := by decide +kernel
theorem g52_51 : m_get 52 51 = some (.getfield 9, 3) := by decide +kernel
theorem g52_54 : m_get 52 54 = some (.iload 6, 2) := by decide +kernel
theorem g52_56 : m_get 52 56 = some (.iaload, 1) := by decide +kernel
theorem g52_57 : m_get 52 57 = some (.iload 5, 2) := by decide +kernel
theorem g52_59 : m_get 52 59 = some (.invokestatic 75, 3) := by decide +kernel
theorem g52_62 : m_get 52 62 = some (.iand, 1) := by decide +kernel
theorem g52_63 : m_get 52 63 = some (.istore 4, 2) := by decide +kernel
theorem g52_65 : m_get 52 65 = some (.iinc 5 1, 3) := by decide +kernel
theorem g52_68 : m_get 52 68 = some (.goto (-57), 3) := by decide +kernel
theorem g52_71 : m_get 52 71 = some (.iload 4, 2) := by decide +kernel
theorem g52_73 : m_get 52 73 = some (.ireturn, 1) := by decide +kernel
theorem f52_9 : m_fl (m_own 52) 9 = some (5, 0) := by decide +kernel
theorem k52_25 : m_ml (m_own 52) 25 = some (0, 17) := by decide +kernel
theorem k52_60 : m_ml (m_own 52) 60 = some (0, 42) := by decide +kernel
theorem k52_75 : m_ml (m_own 52) 75 = some (1, 53) := by decide +kernel
theorem g53_0 : m_get 53 0 = some (.iconst 0, 1) := by decide +kernel
theorem g53_1 : m_get 53 1 = some (.istore_n 3, 1) := by decide +kernel
theorem g53_2 : m_get 53 2 = some (.iconst 0, 1) := by decide +kernel
theorem g53_3 : m_get 53 3 = some (.istore 4, 2) := by decide +kernel
theorem g53_5 : m_get 53 5 = some (.iload 4, 2) := by decide +kernel
theorem g53_7 : m_get 53 7 = some (.bipush 10, 2) := by decide +kernel
theorem g53_9 : m_get 53 9 = some (.if_icmp .ge 34, 3) := by decide +kernel
theorem g53_12 : m_get 53 12 = some (.iload_n 1, 1) := by decide +kernel
theorem g53_13 : m_get 53 13 = some (.aload_n 0, 1) := by decide +kernel
theorem g53_14 : m_get 53 14 = some (.iload_n 2, 1) := by decide +kernel
theorem g53_15 : m_get 53 15 = some (.invokestatic 69, 3) := by decide +kernel
theorem g53_18 : m_get 53 18 = some (.iload 4, 2) := by decide +kernel
theorem g53_20 : m_get 53 20 = some (.invokevirtual 56, 3) := by decide +kernel
theorem g53_23 : m_get 53 23 = some (.iand, 1) := by decide +kernel
theorem g53_24 : m_get 53 24 = some (.ifCond .eq 13, 3) := by decide +kernel
theorem g53_27 : m_get 53 27 = some (.iload_n 3, 1) := by decide +kernel
theorem g53_28 : m_get 53 28 = some (.aload_n 0, 1) := by decide +kernel
theorem g53_29 : m_get 53 29 = some (.iload_n 2, 1) := by decide +kernel
theorem g53_30 : m_get 53 30 = some (.iload 4, 2) := by decide +kernel
theorem g53_32 : m_get 53 32 = some (.invokevirtual 56, 3) := by decide +kernel
theorem g53_35 : m_get 53 35 = some (.ior, 1) := by decide +kernel
theorem g53_36 : m_get 53 36 = some (.istore_n 3, 1) := by decide +kernel
theorem g53_37 : m_get 53 37 = some (.iinc 4 1, 3) := by decide +kernel
theorem g53_40 : m_get 53 40 = some (.goto (-35), 3) := by decide +kernel
theorem g53_43 : m_get 53 43 = some (.iload_n 3, 1) := by decide +kernel
theorem g53_44 : m_get 53 44 = some (.ireturn, 1) := by decide +kernel
theorem k53_56 : m_ml (m_own 53) 56 = some (0, 41) := by decide +kernel
theorem k53_69 : m_ml (m_own 53) 69 = some (3, 96) := by decide +kernel
theorem g54_0 : m_get 54 0 = some (.aload_n 0, 1) := by decide +kernel
theorem g54_1 : m_get 54 1 = some (.invokespecial 3, 3) := by decide +kernel
theorem g54_4 : m_get 54 4 = some (.aload_n 0, 1) := by decide +kernel
theorem g54_5 : m_get 54 5 = some (.bipush 120, 2) := by decide +kernel
theorem g54_7 : m_get 54 7 = some (.newarray .int, 2) := by decide +kernel
theorem g54_9 : m_get 54 9 = some (.putfield 9, 3) := by decide +kernel
theorem g54_12 : m_get 54 12 = some (.aload_n 0, 1) := by decide +kernel
theorem g54_13 : m_get 54 13 = some (.new 13, 3) := by decide +kernel
theorem g54_16 : m_get 54 16 = some (.dup, 1) := by decide +kernel
theorem g54_17 : m_get 54 17 = some (.invokespecial 15, 3) := by decide +kernel
theorem g54_20 : m_get 54 20 = some (.putfield 16, 3) := by decide +kernel
theorem g54_23 : m_get 54 23 = some (.aload_n 0, 1) := by decide +kernel
theorem g54_24 : m_get 54 24 = some (.new 20, 3) := by decide +kernel
theorem g54_27 : m_get 54 27 = some (.dup, 1) := by decide +kernel
theorem g54_28 : m_get 54 28 = some (.invokespecial 22, 3) := by decide +kernel
theorem g54_31 : m_get 54 31 = some (.putfield 23, 3) := by decide +kernel
theorem g54_34 : m_get 54 34 = some (.aload_n 0, 1) := by decide +kernel
theorem g54_35 : m_get 54 35 = some (.new 20, 3) := by decide +kernel
theorem g54_38 : m_get 54 38 = some (.dup, 1) := by decide +kernel
theorem g54_39 : m_get 54 39 = some (.invokespecial 22, 3) := by decide +kernel
theorem g54_42 : m_get 54 42 = some (.putfield 27, 3) := by decide +kernel
theorem g54_45 : m_get 54 45 = some (.aload_n 0, 1) := by decide +kernel
theorem g54_46 : m_get 54 46 = some (.new 30, 3) := by decide +kernel
theorem g54_49 : m_get 54 49 = some (.dup, 1) := by decide +kernel
theorem g54_50 : m_get 54 50 = some (.invokespecial 32, 3) := by decide +kernel
theorem g54_53 : m_get 54 53 = some (.putfield 33, 3) := by decide +kernel
theorem g54_56 : m_get 54 56 = some (.aload_n 0, 1) := by decide +kernel
theorem g54_57 : m_get 54 57 = some (.new 30, 3) := by decide +kernel
theorem g54_60 : m_get 54 60 = some (.dup, 1) := by decide +kernel
theorem g54_61 : m_get 54 61 = some (.invokespecial 32, 3) := by decide +kernel
theorem g54_64 : m_get 54 64 = some (.putfield 37, 3) := by decide +kernel
theorem g54_67 : m_get 54 67 = some (.aload_n 0, 1) := by decide +kernel
theorem g54_68 : m_get 54 68 = some (.bipush 10, 2) := by decide +kernel
theorem g54_70 : m_get 54 70 = some (.anewarray 30, 3) := by decide +kernel
theorem g54_73 : m_get 54 73 = some (.putfield 40, 3) := by decide +kernel
theorem g54_76 : m_get 54 76 = some (.aload_n 0, 1) := by decide +kernel
theorem g54_77 : m_get 54 77 = some (.iconst 2, 1) := by decide +kernel
theorem g54_78 : m_get 54 78 = some (.anewarray 30, 3) := by decide +kernel
theorem g54_81 : m_get 54 81 = some (.putfield 44, 3) := by decide +kernel
theorem g54_84 : m_get 54 84 = some (.aload_n 0, 1) := by decide +kernel
theorem g54_85 : m_get 54 85 = some (.iconst 2, 1) := by decide +kernel
theorem g54_86 : m_get 54 86 = some (.newarray .boolean, 2) := by decide +kernel
theorem g54_88 : m_get 54 88 = some (.putfield 47, 3) := by decide +kernel
theorem g54_91 : m_get 54 91 = some (.aload_n 0, 1) := by decide +kernel
theorem g54_92 : m_get 54 92 = some (.new 51, 3) := by decide +kernel
theorem g54_95 : m_get 54 95 = some (.dup, 1) := by decide +kernel
theorem g54_96 : m_get 54 96 = some (.invokespecial 53, 3) := by decide +kernel
theorem g54_99 : m_get 54 99 = some (.putfield 54, 3) := by decide +kernel
theorem g54_102 : m_get 54 102 = some (.aload_n 0, 1) := by decide +kernel
theorem g54_103 : m_get 54 103 = some (.new 58, 3) := by decide +kernel
theorem g54_106 : m_get 54 106 = some (.dup, 1) := by decide +kernel
theorem g54_107 : m_get 54 107 = some (.invokespecial 60, 3) := by decide +kernel
theorem g54_110 : m_get 54 110 = some (.putfield 61, 3) := by decide +kernel
theorem g54_113 : m_get 54 113 = some (.aload_n 0, 1) := by decide +kernel
theorem g54_114 : m_get 54 114 = some (.new 65, 3) := by decide +kernel
theorem g54_117 : m_get 54 117 = some (.dup, 1) := by decide +kernel
theorem g54_118 : m_get 54 118 = some (.invokespecial 67, 3) := by decide +kernel
theorem g54_121 : m_get 54 121 = some (.putfield 68, 3) := by decide +kernel
theorem g54_124 : m_get 54 124 = some (.aload_n 0, 1) := by decide +kernel
theorem g54_125 : m_get 54 125 = some (.bipush 6, 2) := by decide +kernel
theorem g54_127 : m_get 54 127 = some (.newarray .int, 2) := by decide +kernel
theorem g54_129 : m_get 54 129 = some (.putfield 72, 3) := by decide +kernel
theorem g54_132 : m_get 54 132 = some (.iconst 0, 1) := by decide +kernel
theorem g54_133 : m_get 54 133 = some (.istore_n 1, 1) := by decide +kernel
theorem g54_134 : m_get 54 134 = some (.iload_n 1, 1) := by decide +kernel
theorem g54_135 : m_get 54 135 = some (.bipush 10, 2) := by decide +kernel
theorem g54_137 : m_get 54 137 = some (.if_icmp .ge 22, 3) := by decide +kernel
theorem g54_140 : m_get 54 140 = some (.aload_n 0, 1) := by decide +kernel
theorem g54_141 : m_get 54 141 = some (.getfield 40, 3) := by decide +kernel
theorem g54_144 : m_get 54 144 = some (.iload_n 1, 1) := by decide +kernel
theorem g54_145 : m_get 54 145 = some (.new 30, 3) := by decide +kernel
theorem g54_148 : m_get 54 148 = some (.dup, 1) := by decide +kernel
theorem g54_149 : m_get 54 149 = some (.invokespecial 32, 3) := by decide +kernel
theorem g54_152 : m_get 54 152 = some (.aastore, 1) := by decide +kernel
theorem g54_153 : m_get 54 153 = some (.iinc 1 1, 3) := by decide +kernel
theorem g54_156 : m_get 54 156 = some (.goto (-22), 3) := by decide +kernel
theorem g54_159 : m_get 54 159 = some (.iconst 0, 1) := by decide +kernel
theorem g54_160 : m_get 54 160 = some (.istore_n 1, 1) := by decide +kernel
theorem g54_161 : m_get 54 161 = some (.iload_n 1, 1) := by decide +kernel
theorem g54_162 : m_get 54 162 = some (.iconst 2, 1) := by decide +kernel
theorem g54_163 : m_get 54 163 = some (.if_icmp .ge 22, 3) := by decide +kernel
theorem g54_166 : m_get 54 166 = some (.aload_n 0, 1) := by decide +kernel
theorem g54_167 : m_get 54 167 = some (.getfield 44, 3) := by decide +kernel
theorem g54_170 : m_get 54 170 = some (.iload_n 1, 1) := by decide +kernel
theorem g54_171 : m_get 54 171 = some (.new 30, 3) := by decide +kernel
theorem g54_174 : m_get 54 174 = some (.dup, 1) := by decide +kernel
theorem g54_175 : m_get 54 175 = some (.invokespecial 32, 3) := by decide +kernel
theorem g54_178 : m_get 54 178 = some (.aastore, 1) := by decide +kernel
theorem g54_179 : m_get 54 179 = some (.iinc 1 1, 3) := by decide +kernel
theorem g54_182 : m_get 54 182 = some (.goto (-21), 3) := by decide +kernel
theorem g54_185 : m_get 54 185 = some (.aload_n 0, 1) := by decide +kernel
theorem g54_186 : m_get 54 186 = some (.getfield 68, 3) := by decide +kernel
theorem g54_189 : m_get 54 189 = some (.aload_n 0, 1) := by decide +kernel
theorem g54_190 : m_get 54 190 = some (.getfield 23, 3) := by decide +kernel
theorem g54_193 : m_get 54 193 = some (.invokevirtual 75, 3) := by decide +kernel
theorem g54_196 : m_get 54 196 = some (.return_, 1) := by decide +kernel
theorem f54_9 : m_fl (m_own 54) 9 = some (6, 0) := by decide +kernel
theorem f54_16 : m_fl (m_own 54) 16 = some (6, 2) := by decide +kernel
theorem f54_23 : m_fl (m_own 54) 23 = some (6, 3) := by decide +kernel
theorem f54_27 : m_fl (m_own 54) 27 = some (6, 4) := by decide +kernel
theorem f54_33 : m_fl (m_own 54) 33 = some (6, 5) := by decide +kernel
theorem f54_37 : m_fl (m_own 54) 37 = some (6, 6) := by decide +kernel
theorem f54_40 : m_fl (m_own 54) 40 = some (6, 7) := by decide +kernel
theorem f54_44 : m_fl (m_own 54) 44 = some (6, 10) := by decide +kernel
theorem f54_47 : m_fl (m_own 54) 47 = some (6, 11) := by decide +kernel
theorem f54_54 : m_fl (m_own 54) 54 = some (6, 12) := by decide +kernel
theorem f54_61 : m_fl (m_own 54) 61 = some (6, 13) := by decide +kernel
theorem f54_68 : m_fl (m_own 54) 68 = some (6, 14) := by decide +kernel
theorem f54_72 : m_fl (m_own 54) 72 = some (6, 15) := by decide +kernel
theorem k54_3 : m_ml (m_own 54) 3 = some (5, 0) := by decide +kernel
theorem k54_15 : m_ml (m_own 54) 15 = some (4, 20) := by decide +kernel
theorem k54_22 : m_ml (m_own 54) 22 = some (2, 34) := by decide +kernel
theorem k54_32 : m_ml (m_own 54) 32 = some (2, 13) := by decide +kernel
theorem k54_53 : m_ml (m_own 54) 53 = some (4, 47) := by decide +kernel
theorem k54_60 : m_ml (m_own 54) 60 = some (4, 7) := by decide +kernel
theorem k54_67 : m_ml (m_own 54) 67 = some (4, 0) := by decide +kernel
theorem k54_75 : m_ml (m_own 54) 75 = some (0, 2) := by decide +kernel
theorem g55_0 : m_get 55 0 = some (.iload_n 1, 1) := by decide +kernel
theorem g55_1 : m_get 55 1 = some (.ifCond .lt 10, 3) := by decide +kernel
theorem g55_4 : m_get 55 4 = some (.iload_n 1, 1) := by decide +kernel
theorem g55_5 : m_get 55 5 = some (.sipush 255, 3) := by decide +kernel
theorem g55_8 : m_get 55 8 = some (.if_icmp .le 5, 3) := by decide +kernel
theorem g55_11 : m_get 55 11 = some (.iconst (-1), 1) := by decide +kernel
theorem g55_12 : m_get 55 12 = some (.ireturn, 1) := by decide +kernel
theorem g55_13 : m_get 55 13 = some (.aload_n 0, 1) := by decide +kernel
theorem g55_14 : m_get 55 14 = some (.getfield 79, 3) := by decide +kernel
theorem g55_17 : m_get 55 17 = some (.bipush 120, 2) := by decide +kernel
theorem g55_19 : m_get 55 19 = some (.if_icmp .lt 6, 3) := by decide +kernel
theorem g55_22 : m_get 55 22 = some (.bipush (-3), 2) := by decide +kernel
theorem g55_24 : m_get 55 24 = some (.ireturn, 1) := by decide +kernel
theorem g55_25 : m_get 55 25 = some (.aload_n 0, 1) := by decide +kernel
theorem g55_26 : m_get 55 26 = some (.getfield 9, 3) := by decide +kernel
theorem g55_29 : m_get 55 29 = some (.aload_n 0, 1) := by decide +kernel
theorem g55_30 : m_get 55 30 = some (.getfield 79, 3) := by decide +kernel
theorem g55_33 : m_get 55 33 = some (.iload_n 1, 1) := by decide +kernel
theorem g55_34 : m_get 55 34 = some (.iastore, 1) := by decide +kernel
theorem g55_35 : m_get 55 35 = some (.aload_n 0, 1) := by decide +kernel
theorem g55_36 : m_get 55 36 = some (.dup, 1) := by decide +kernel
theorem g55_37 : m_get 55 37 = some (.getfield 79, 3) := by decide +kernel
theorem g55_40 : m_get 55 40 = some (.iconst 1, 1) := by decide +kernel
theorem g55_41 : m_get 55 41 = some (.iadd, 1) := by decide +kernel
theorem g55_42 : m_get 55 42 = some (.putfield 79, 3) := by decide +kernel
theorem g55_45 : m_get 55 45 = some (.aload_n 0, 1) := by decide +kernel
theorem g55_46 : m_get 55 46 = some (.getfield 79, 3) := by decide +kernel
theorem g55_49 : m_get 55 49 = some (.ireturn, 1) := by decide +kernel
theorem f55_9 : m_fl (m_own 55) 9 = some (6, 0) := by decide +kernel
theorem f55_79 : m_fl (m_own 55) 79 = some (6, 1) := by decide +kernel
theorem g56_0 : m_get 56 0 = some (.aload_n 0, 1) := by decide +kernel
theorem g56_1 : m_get 56 1 = some (.getfield 79, 3) := by decide +kernel
theorem g56_4 : m_get 56 4 = some (.istore_n 1, 1) := by decide +kernel
theorem g56_5 : m_get 56 5 = some (.aload_n 0, 1) := by decide +kernel
theorem g56_6 : m_get 56 6 = some (.iconst 0, 1) := by decide +kernel
theorem g56_7 : m_get 56 7 = some (.putfield 79, 3) := by decide +kernel
theorem g56_10 : m_get 56 10 = some (.iload_n 1, 1) := by decide +kernel
theorem g56_11 : m_get 56 11 = some (.ireturn, 1) := by decide +kernel
theorem f56_79 : m_fl (m_own 56) 79 = some (6, 1) := by decide +kernel
theorem g57_0 : m_get 57 0 = some (.aload_n 0, 1) := by decide +kernel
theorem g57_1 : m_get 57 1 = some (.getfield 16, 3) := by decide +kernel
theorem g57_4 : m_get 57 4 = some (.aload_n 0, 1) := by decide +kernel
theorem g57_5 : m_get 57 5 = some (.getfield 27, 3) := by decide +kernel
theorem g57_8 : m_get 57 8 = some (.aload_n 0, 1) := by decide +kernel
theorem g57_9 : m_get 57 9 = some (.getfield 9, 3) := by decide +kernel
theorem g57_12 : m_get 57 12 = some (.aload_n 0, 1) := by decide +kernel
theorem g57_13 : m_get 57 13 = some (.getfield 79, 3) := by decide +kernel
theorem g57_16 : m_get 57 16 = some (.invokevirtual 83, 3) := by decide +kernel
theorem g57_19 : m_get 57 19 = some (.istore_n 1, 1) := by decide +kernel
theorem g57_20 : m_get 57 20 = some (.iload_n 1, 1) := by decide +kernel
theorem g57_21 : m_get 57 21 = some (.ifCond .ge 5, 3) := by decide +kernel
theorem g57_24 : m_get 57 24 = some (.iload_n 1, 1) := by decide +kernel
theorem g57_25 : m_get 57 25 = some (.ireturn, 1) := by decide +kernel
theorem g57_26 : m_get 57 26 = some (.aload_n 0, 1) := by decide +kernel
theorem g57_27 : m_get 57 27 = some (.getfield 23, 3) := by decide +kernel
theorem g57_30 : m_get 57 30 = some (.astore_n 2, 1) := by decide +kernel
theorem g57_31 : m_get 57 31 = some (.aload_n 0, 1) := by decide +kernel
theorem g57_32 : m_get 57 32 = some (.aload_n 0, 1) := by decide +kernel
theorem g57_33 : m_get 57 33 = some (.getfield 27, 3) := by decide +kernel
theorem g57_36 : m_get 57 36 = some (.putfield 23, 3) := by decide +kernel
theorem g57_39 : m_get 57 39 = some (.aload_n 0, 1) := by decide +kernel
theorem g57_40 : m_get 57 40 = some (.aload_n 2, 1) := by decide +kernel
theorem g57_41 : m_get 57 41 = some (.putfield 27, 3) := by decide +kernel
theorem g57_44 : m_get 57 44 = some (.aload_n 0, 1) := by decide +kernel
theorem g57_45 : m_get 57 45 = some (.getfield 23, 3) := by decide +kernel
theorem g57_48 : m_get 57 48 = some (.invokevirtual 87, 3) := by decide +kernel
theorem g57_51 : m_get 57 51 = some (.aload_n 0, 1) := by decide +kernel
theorem g57_52 : m_get 57 52 = some (.getfield 33, 3) := by decide +kernel
theorem g57_55 : m_get 57 55 = some (.aload_n 0, 1) := by decide +kernel
theorem g57_56 : m_get 57 56 = some (.getfield 23, 3) := by decide +kernel
theorem g57_59 : m_get 57 59 = some (.invokevirtual 90, 3) := by decide +kernel
theorem g57_62 : m_get 57 62 = some (.aload_n 0, 1) := by decide +kernel
theorem g57_63 : m_get 57 63 = some (.iconst 0, 1) := by decide +kernel
theorem g57_64 : m_get 57 64 = some (.putfield 79, 3) := by decide +kernel
theorem g57_67 : m_get 57 67 = some (.aload_n 0, 1) := by decide +kernel
theorem g57_68 : m_get 57 68 = some (.iconst 0, 1) := by decide +kernel
theorem g57_69 : m_get 57 69 = some (.putfield 93, 3) := by decide +kernel
theorem g57_72 : m_get 57 72 = some (.aload_n 0, 1) := by decide +kernel
theorem g57_73 : m_get 57 73 = some (.invokevirtual 96, 3) := by decide +kernel
theorem g57_76 : m_get 57 76 = some (.aload_n 0, 1) := by decide +kernel
theorem g57_77 : m_get 57 77 = some (.getfield 68, 3) := by decide +kernel
theorem g57_80 : m_get 57 80 = some (.aload_n 0, 1) := by decide +kernel
theorem g57_81 : m_get 57 81 = some (.getfield 23, 3) := by decide +kernel
theorem g57_84 : m_get 57 84 = some (.invokevirtual 75, 3) := by decide +kernel
theorem g57_87 : m_get 57 87 = some (.iload_n 1, 1) := by decide +kernel
theorem g57_88 : m_get 57 88 = some (.ireturn, 1) := by decide +kernel
theorem f57_9 : m_fl (m_own 57) 9 = some (6, 0) := by decide +kernel
theorem f57_16 : m_fl (m_own 57) 16 = some (6, 2) := by decide +kernel
theorem f57_23 : m_fl (m_own 57) 23 = some (6, 3) := by decide +kernel
theorem f57_27 : m_fl (m_own 57) 27 = some (6, 4) := by decide +kernel
theorem f57_33 : m_fl (m_own 57) 33 = some (6, 5) := by decide +kernel
theorem f57_68 : m_fl (m_own 57) 68 = some (6, 14) := by decide +kernel
theorem f57_79 : m_fl (m_own 57) 79 = some (6, 1) := by decide +kernel
theorem f57_93 : m_fl (m_own 57) 93 = some (6, 9) := by decide +kernel
theorem k57_75 : m_ml (m_own 57) 75 = some (0, 2) := by decide +kernel
theorem k57_83 : m_ml (m_own 57) 83 = some (0, 21) := by decide +kernel
theorem k57_87 : m_ml (m_own 57) 87 = some (0, 40) := by decide +kernel
theorem k57_90 : m_ml (m_own 57) 90 = some (0, 14) := by decide +kernel
theorem k57_96 : m_ml (m_own 57) 96 = some (0, 88) := by decide +kernel
theorem g58_0 : m_get 58 0 = some (.aload_n 0, 1) := by decide +kernel
theorem g58_1 : m_get 58 1 = some (.iload_n 1, 1) := by decide +kernel
theorem g58_2 : m_get 58 2 = some (.invokevirtual 99, 3) := by decide +kernel
theorem g58_5 : m_get 58 5 = some (.ifCond .eq 13, 3) := by decide +kernel
theorem g58_8 : m_get 58 8 = some (.iload_n 2, 1) := by decide +kernel
theorem g58_9 : m_get 58 9 = some (.ifCond .lt 9, 3) := by decide +kernel
theorem g58_12 : m_get 58 12 = some (.iload_n 2, 1) := by decide +kernel
theorem g58_13 : m_get 58 13 = some (.bipush 6, 2) := by decide +kernel
theorem g58_15 : m_get 58 15 = some (.if_icmp .le 5, 3) := by decide +kernel
theorem g58_18 : m_get 58 18 = some (.iconst (-1), 1) := by decide +kernel
theorem g58_19 : m_get 58 19 = some (.ireturn, 1) := by decide +kernel
theorem g58_20 : m_get 58 20 = some (.iload_n 2, 1) := by decide +kernel
theorem g58_21 : m_get 58 21 = some (.tableswitch 59 4 6 #[27, 37, 47], 27) := by decide +kernel
theorem g58_48 : m_get 58 48 = some (.aload_n 0, 1) := by decide +kernel
theorem g58_49 : m_get 58 49 = some (.getfield 23, 3) := by decide +kernel
theorem g58_52 : m_get 58 52 = some (.getfield 103, 3) := by decide +kernel
theorem g58_55 : m_get 58 55 = some (.iload_n 1, 1) := by decide +kernel
theorem g58_56 : m_get 58 56 = some (.iaload, 1) := by decide +kernel
theorem g58_57 : m_get 58 57 = some (.ireturn, 1) := by decide +kernel
theorem g58_58 : m_get 58 58 = some (.aload_n 0, 1) := by decide +kernel
theorem g58_59 : m_get 58 59 = some (.getfield 33, 3) := by decide +kernel
theorem g58_62 : m_get 58 62 = some (.getfield 106, 3) := by decide +kernel
theorem g58_65 : m_get 58 65 = some (.iload_n 1, 1) := by decide +kernel
theorem g58_66 : m_get 58 66 = some (.iaload, 1) := by decide +kernel
theorem g58_67 : m_get 58 67 = some (.ireturn, 1) := by decide +kernel
theorem g58_68 : m_get 58 68 = some (.aload_n 0, 1) := by decide +kernel
theorem g58_69 : m_get 58 69 = some (.getfield 33, 3) := by decide +kernel
theorem g58_72 : m_get 58 72 = some (.iload_n 1, 1) := by decide +kernel
theorem g58_73 : m_get 58 73 = some (.invokevirtual 109, 3) := by decide +kernel
theorem g58_76 : m_get 58 76 = some (.bipush 100, 2) := by decide +kernel
theorem g58_78 : m_get 58 78 = some (.iadd, 1) := by decide +kernel
theorem g58_79 : m_get 58 79 = some (.ireturn, 1) := by decide +kernel
theorem g58_80 : m_get 58 80 = some (.aload_n 0, 1) := by decide +kernel
theorem g58_81 : m_get 58 81 = some (.getfield 23, 3) := by decide +kernel
theorem g58_84 : m_get 58 84 = some (.iload_n 1, 1) := by decide +kernel
theorem g58_85 : m_get 58 85 = some (.iconst 4, 1) := by decide +kernel
theorem g58_86 : m_get 58 86 = some (.imul, 1) := by decide +kernel
theorem g58_87 : m_get 58 87 = some (.iload_n 2, 1) := by decide +kernel
theorem g58_88 : m_get 58 88 = some (.invokevirtual 113, 3) := by decide +kernel
theorem g58_91 : m_get 58 91 = some (.ireturn, 1) := by decide +kernel
theorem f58_23 : m_fl (m_own 58) 23 = some (6, 3) := by decide +kernel
theorem f58_33 : m_fl (m_own 58) 33 = some (6, 5) := by decide +kernel
theorem f58_103 : m_fl (m_own 58) 103 = some (4, 8) := by decide +kernel
theorem f58_106 : m_fl (m_own 58) 106 = some (2, 1) := by decide +kernel
theorem k58_99 : m_ml (m_own 58) 99 = some (0, 81) := by decide +kernel
theorem k58_109 : m_ml (m_own 58) 109 = some (0, 18) := by decide +kernel
theorem k58_113 : m_ml (m_own 58) 113 = some (0, 37) := by decide +kernel
theorem g59_0 : m_get 59 0 = some (.aload_n 0, 1) := by decide +kernel
theorem g59_1 : m_get 59 1 = some (.iload_n 1, 1) := by decide +kernel
theorem g59_2 : m_get 59 2 = some (.invokevirtual 117, 3) := by decide +kernel
theorem g59_5 : m_get 59 5 = some (.ifCond .eq 12, 3) := by decide +kernel
theorem g59_8 : m_get 59 8 = some (.iload_n 2, 1) := by decide +kernel
theorem g59_9 : m_get 59 9 = some (.ifCond .lt 8, 3) := by decide +kernel
theorem g59_12 : m_get 59 12 = some (.iload_n 2, 1) := by decide +kernel
theorem g59_13 : m_get 59 13 = some (.iconst 4, 1) := by decide +kernel
theorem g59_14 : m_get 59 14 = some (.if_icmp .le 5, 3) := by decide +kernel
theorem g59_17 : m_get 59 17 = some (.iconst (-1), 1) := by decide +kernel
theorem g59_18 : m_get 59 18 = some (.ireturn, 1) := by decide +kernel
theorem g59_19 : m_get 59 19 = some (.iload_n 2, 1) := by decide +kernel
theorem g59_20 : m_get 59 20 = some (.iconst 4, 1) := by decide +kernel
theorem g59_21 : m_get 59 21 = some (.if_icmp .ne 20, 3) := by decide +kernel
theorem g59_24 : m_get 59 24 = some (.aload_n 0, 1) := by decide +kernel
theorem g59_25 : m_get 59 25 = some (.getfield 23, 3) := by decide +kernel
theorem g59_28 : m_get 59 28 = some (.iload_n 1, 1) := by decide +kernel
theorem g59_29 : m_get 59 29 = some (.invokevirtual 120, 3) := by decide +kernel
theorem g59_32 : m_get 59 32 = some (.ifCond .eq 7, 3) := by decide +kernel
theorem g59_35 : m_get 59 35 = some (.iconst 1, 1) := by decide +kernel
theorem g59_36 : m_get 59 36 = some (.goto 4, 3) := by decide +kernel
theorem g59_39 : m_get 59 39 = some (.iconst 0, 1) := by decide +kernel
theorem g59_40 : m_get 59 40 = some (.ireturn, 1) := by decide +kernel
theorem g59_41 : m_get 59 41 = some (.aload_n 0, 1) := by decide +kernel
theorem g59_42 : m_get 59 42 = some (.getfield 23, 3) := by decide +kernel
theorem g59_45 : m_get 59 45 = some (.iload_n 1, 1) := by decide +kernel
theorem g59_46 : m_get 59 46 = some (.iload_n 2, 1) := by decide +kernel
theorem g59_47 : m_get 59 47 = some (.invokevirtual 113, 3) := by decide +kernel
theorem g59_50 : m_get 59 50 = some (.ireturn, 1) := by decide +kernel
theorem f59_23 : m_fl (m_own 59) 23 = some (6, 3) := by decide +kernel
theorem k59_113 : m_ml (m_own 59) 113 = some (0, 37) := by decide +kernel
theorem k59_117 : m_ml (m_own 59) 117 = some (0, 82) := by decide +kernel
theorem k59_120 : m_ml (m_own 59) 120 = some (0, 38) := by decide +kernel
end
section
/-! facts of the tables, one by one (printed by gen3.py) -/
theorem g60_0 : m_get 60 0 = some (.aload_n 0, 1) := by decide +kernel
theorem g60_1 : m_get 60 1 = some (.iload_n 1, 1) := by decide +kernel
theorem g60_2 : m_get 60 2 = some (.invokevirtual 123, 3) := by decide +kernel
theorem g60_5 : m_get 60 5 = some (.ifCond .eq 11, 3) := by decide +kernel
theorem g60_8 : m_get 60 8 = some (.aload_n 0, 1) := by decide +kernel
theorem g60_9 : m_get 60 9 = some (.iload_n 2, 1) := by decide +kernel
theorem g60_10 : m_get 60 10 = some (.invokevirtual 117, 3) := by decide +kernel
theorem g60_13 : m_get 60 13 = some (.ifCond .ne 5, 3) := by decide +kernel
theorem g60_16 : m_get 60 16 = some (.iconst (-1), 1) := by decide +kernel
theorem g60_17 : m_get 60 17 = some (.ireturn, 1) := by decide +kernel
theorem g60_18 : m_get 60 18 = some (.aload_n 0, 1) := by decide +kernel
theorem g60_19 : m_get 60 19 = some (.getfield 33, 3) := by decide +kernel
theorem g60_22 : m_get 60 22 = some (.iload_n 1, 1) := by decide +kernel
theorem g60_23 : m_get 60 23 = some (.invokevirtual 126, 3) := by decide +kernel
theorem g60_26 : m_get 60 26 = some (.ifCond .ne 6, 3) := by decide +kernel
theorem g60_29 : m_get 60 29 = some (.bipush (-2), 2) := by decide +kernel
theorem g60_31 : m_get 60 31 = some (.ireturn, 1) := by decide +kernel
theorem g60_32 : m_get 60 32 = some (.aload_n 0, 1) := by decide +kernel
theorem g60_33 : m_get 60 33 = some (.iload_n 1, 1) := by decide +kernel
theorem g60_34 : m_get 60 34 = some (.iload_n 2, 1) := by decide +kernel
theorem g60_35 : m_get 60 35 = some (.invokevirtual 129, 3) := by decide +kernel
theorem g60_38 : m_get 60 38 = some (.istore_n 3, 1) := by decide +kernel
theorem g60_39 : m_get 60 39 = some (.iload_n 3, 1) := by decide +kernel
theorem g60_40 : m_get 60 40 = some (.ifCond .eq 8, 3) := by decide +kernel
theorem g60_43 : m_get 60 43 = some (.bipush (-10), 2) := by decide +kernel
theorem g60_45 : m_get 60 45 = some (.iload_n 3, 1) := by decide +kernel
theorem g60_46 : m_get 60 46 = some (.isub, 1) := by decide +kernel
theorem g60_47 : m_get 60 47 = some (.ireturn, 1) := by decide +kernel
theorem g60_48 : m_get 60 48 = some (.aload_n 0, 1) := by decide +kernel
theorem g60_49 : m_get 60 49 = some (.invokevirtual 132, 3) := by decide +kernel
theorem g60_52 : m_get 60 52 = some (.aload_n 0, 1) := by decide +kernel
theorem g60_53 : m_get 60 53 = some (.getfield 33, 3) := by decide +kernel
theorem g60_56 : m_get 60 56 = some (.getfield 135, 3) := by decide +kernel
theorem g60_59 : m_get 60 59 = some (.iload_n 1, 1) := by decide +kernel
theorem g60_60 : m_get 60 60 = some (.iload_n 2, 1) := by decide +kernel
theorem g60_61 : m_get 60 61 = some (.iastore, 1) := by decide +kernel
theorem g60_62 : m_get 60 62 = some (.aload_n 0, 1) := by decide +kernel
theorem g60_63 : m_get 60 63 = some (.invokevirtual 138, 3) := by decide +kernel
theorem g60_66 : m_get 60 66 = some (.ireturn, 1) := by decide +kernel
theorem f60_33 : m_fl (m_own 60) 33 = some (6, 5) := by decide +kernel
theorem f60_135 : m_fl (m_own 60) 135 = some (2, 0) := by decide +kernel
theorem k60_117 : m_ml (m_own 60) 117 = some (0, 82) := by decide +kernel
theorem k60_123 : m_ml (m_own 60) 123 = some (0, 83) := by decide +kernel
theorem k60_126 : m_ml (m_own 60) 126 = some (0, 17) := by decide +kernel
theorem k60_129 : m_ml (m_own 60) 129 = some (0, 90) := by decide +kernel
theorem k60_132 : m_ml (m_own 60) 132 = some (0, 89) := by decide +kernel
theorem k60_138 : m_ml (m_own 60) 138 = some (0, 87) := by decide +kernel
theorem g61_0 : m_get 61 0 = some (.aload_n 0, 1) := by decide +kernel
theorem g61_1 : m_get 61 1 = some (.iload_n 1, 1) := by decide +kernel
theorem g61_2 : m_get 61 2 = some (.invokevirtual 123, 3) := by decide +kernel
theorem g61_5 : m_get 61 5 = some (.ifCond .ne 5, 3) := by decide +kernel
theorem g61_8 : m_get 61 8 = some (.iconst (-1), 1) := by decide +kernel
theorem g61_9 : m_get 61 9 = some (.ireturn, 1) := by decide +kernel
theorem g61_10 : m_get 61 10 = some (.aload_n 0, 1) := by decide +kernel
theorem g61_11 : m_get 61 11 = some (.getfield 33, 3) := by decide +kernel
theorem g61_14 : m_get 61 14 = some (.iload_n 1, 1) := by decide +kernel
theorem g61_15 : m_get 61 15 = some (.invokevirtual 126, 3) := by decide +kernel
theorem g61_18 : m_get 61 18 = some (.ifCond .eq 6, 3) := by decide +kernel
theorem g61_21 : m_get 61 21 = some (.bipush (-2), 2) := by decide +kernel
theorem g61_23 : m_get 61 23 = some (.ireturn, 1) := by decide +kernel
theorem g61_24 : m_get 61 24 = some (.aload_n 0, 1) := by decide +kernel
theorem g61_25 : m_get 61 25 = some (.invokevirtual 132, 3) := by decide +kernel
theorem g61_28 : m_get 61 28 = some (.aload_n 0, 1) := by decide +kernel
theorem g61_29 : m_get 61 29 = some (.getfield 33, 3) := by decide +kernel
theorem g61_32 : m_get 61 32 = some (.getfield 135, 3) := by decide +kernel
theorem g61_35 : m_get 61 35 = some (.iload_n 1, 1) := by decide +kernel
theorem g61_36 : m_get 61 36 = some (.iaload, 1) := by decide +kernel
theorem g61_37 : m_get 61 37 = some (.istore_n 2, 1) := by decide +kernel
theorem g61_38 : m_get 61 38 = some (.aload_n 0, 1) := by decide +kernel
theorem g61_39 : m_get 61 39 = some (.getfield 33, 3) := by decide +kernel
theorem g61_42 : m_get 61 42 = some (.getfield 135, 3) := by decide +kernel
theorem g61_45 : m_get 61 45 = some (.iload_n 1, 1) := by decide +kernel
theorem g61_46 : m_get 61 46 = some (.bipush (-9), 2) := by decide +kernel
theorem g61_48 : m_get 61 48 = some (.iastore, 1) := by decide +kernel
theorem g61_49 : m_get 61 49 = some (.iload_n 2, 1) := by decide +kernel
theorem g61_50 : m_get 61 50 = some (.ireturn, 1) := by decide +kernel
theorem f61_33 : m_fl (m_own 61) 33 = some (6, 5) := by decide +kernel
theorem f61_135 : m_fl (m_own 61) 135 = some (2, 0) := by decide +kernel
theorem k61_123 : m_ml (m_own 61) 123 = some (0, 83) := by decide +kernel
theorem k61_126 : m_ml (m_own 61) 126 = some (0, 17) := by decide +kernel
theorem k61_132 : m_ml (m_own 61) 132 = some (0, 89) := by decide +kernel
theorem g62_0 : m_get 62 0 = some (.aload_n 0, 1) := by decide +kernel
theorem g62_1 : m_get 62 1 = some (.iload_n 1, 1) := by decide +kernel
theorem g62_2 : m_get 62 2 = some (.invokevirtual 99, 3) := by decide +kernel
theorem g62_5 : m_get 62 5 = some (.ifCond .eq 13, 3) := by decide +kernel
theorem g62_8 : m_get 62 8 = some (.iload_n 2, 1) := by decide +kernel
theorem g62_9 : m_get 62 9 = some (.ifCond .lt 9, 3) := by decide +kernel
theorem g62_12 : m_get 62 12 = some (.iload_n 2, 1) := by decide +kernel
theorem g62_13 : m_get 62 13 = some (.bipush 9, 2) := by decide +kernel
theorem g62_15 : m_get 62 15 = some (.if_icmp .le 5, 3) := by decide +kernel
theorem g62_18 : m_get 62 18 = some (.iconst (-1), 1) := by decide +kernel
theorem g62_19 : m_get 62 19 = some (.ireturn, 1) := by decide +kernel
theorem g62_20 : m_get 62 20 = some (.aload_n 0, 1) := by decide +kernel
theorem g62_21 : m_get 62 21 = some (.getfield 33, 3) := by decide +kernel
theorem g62_24 : m_get 62 24 = some (.getfield 106, 3) := by decide +kernel
theorem g62_27 : m_get 62 27 = some (.iload_n 1, 1) := by decide +kernel
theorem g62_28 : m_get 62 28 = some (.iaload, 1) := by decide +kernel
theorem g62_29 : m_get 62 29 = some (.istore_n 3, 1) := by decide +kernel
theorem g62_30 : m_get 62 30 = some (.iload_n 3, 1) := by decide +kernel
theorem g62_31 : m_get 62 31 = some (.iload_n 2, 1) := by decide +kernel
theorem g62_32 : m_get 62 32 = some (.if_icmp .ne 6, 3) := by decide +kernel
theorem g62_35 : m_get 62 35 = some (.bipush (-2), 2) := by decide +kernel
theorem g62_37 : m_get 62 37 = some (.ireturn, 1) := by decide +kernel
theorem g62_38 : m_get 62 38 = some (.aload_n 0, 1) := by decide +kernel
theorem g62_39 : m_get 62 39 = some (.invokevirtual 132, 3) := by decide +kernel
theorem g62_42 : m_get 62 42 = some (.aload_n 0, 1) := by decide +kernel
theorem g62_43 : m_get 62 43 = some (.getfield 33, 3) := by decide +kernel
theorem g62_46 : m_get 62 46 = some (.getfield 106, 3) := by decide +kernel
theorem g62_49 : m_get 62 49 = some (.iload_n 1, 1) := by decide +kernel
theorem g62_50 : m_get 62 50 = some (.iload_n 2, 1) := by decide +kernel
theorem g62_51 : m_get 62 51 = some (.iastore, 1) := by decide +kernel
theorem g62_52 : m_get 62 52 = some (.iload_n 3, 1) := by decide +kernel
theorem g62_53 : m_get 62 53 = some (.ireturn, 1) := by decide +kernel
theorem f62_33 : m_fl (m_own 62) 33 = some (6, 5) := by decide +kernel
theorem f62_106 : m_fl (m_own 62) 106 = some (2, 1) := by decide +kernel
theorem k62_99 : m_ml (m_own 62) 99 = some (0, 81) := by decide +kernel
theorem k62_132 : m_ml (m_own 62) 132 = some (0, 89) := by decide +kernel
theorem g63_0 : m_get 63 0 = some (.aload_n 0, 1) := by decide +kernel
theorem g63_1 : m_get 63 1 = some (.getfield 23, 3) := by decide +kernel
theorem g63_4 : m_get 63 4 = some (.invokevirtual 142, 3) := by decide +kernel
theorem g63_7 : m_get 63 7 = some (.aload_n 0, 1) := by decide +kernel
theorem g63_8 : m_get 63 8 = some (.invokevirtual 138, 3) := by decide +kernel
theorem g63_11 : m_get 63 11 = some (.isub, 1) := by decide +kernel
theorem g63_12 : m_get 63 12 = some (.istore_n 1, 1) := by decide +kernel
theorem g63_13 : m_get 63 13 = some (.aload_n 0, 1) := by decide +kernel
theorem g63_14 : m_get 63 14 = some (.invokevirtual 132, 3) := by decide +kernel
theorem g63_17 : m_get 63 17 = some (.aload_n 0, 1) := by decide +kernel
theorem g63_18 : m_get 63 18 = some (.getfield 33, 3) := by decide +kernel
theorem g63_21 : m_get 63 21 = some (.invokevirtual 145, 3) := by decide +kernel
theorem g63_24 : m_get 63 24 = some (.iload_n 1, 1) := by decide +kernel
theorem g63_25 : m_get 63 25 = some (.ireturn, 1) := by decide +kernel
theorem f63_23 : m_fl (m_own 63) 23 = some (6, 3) := by decide +kernel
theorem f63_33 : m_fl (m_own 63) 33 = some (6, 5) := by decide +kernel
theorem k63_132 : m_ml (m_own 63) 132 = some (0, 89) := by decide +kernel
theorem k63_138 : m_ml (m_own 63) 138 = some (0, 87) := by decide +kernel
theorem k63_142 : m_ml (m_own 63) 142 = some (0, 36) := by decide +kernel
theorem k63_145 : m_ml (m_own 63) 145 = some (0, 16) := by decide +kernel
theorem g64_0 : m_get 64 0 = some (.aload_n 0, 1) := by decide +kernel
theorem g64_1 : m_get 64 1 = some (.getfield 93, 3) := by decide +kernel
theorem g64_4 : m_get 64 4 = some (.iconst 1, 1) := by decide +kernel
theorem g64_5 : m_get 64 5 = some (.if_icmp .ge 6, 3) := by decide +kernel
theorem g64_8 : m_get 64 8 = some (.bipush (-2), 2) := by decide +kernel
theorem g64_10 : m_get 64 10 = some (.ireturn, 1) := by decide +kernel
theorem g64_11 : m_get 64 11 = some (.aload_n 0, 1) := by decide +kernel
theorem g64_12 : m_get 64 12 = some (.aload_n 0, 1) := by decide +kernel
theorem g64_13 : m_get 64 13 = some (.getfield 148, 3) := by decide +kernel
theorem g64_16 : m_get 64 16 = some (.bipush 10, 2) := by decide +kernel
theorem g64_18 : m_get 64 18 = some (.iadd, 1) := by decide +kernel
theorem g64_19 : m_get 64 19 = some (.iconst 1, 1) := by decide +kernel
theorem g64_20 : m_get 64 20 = some (.isub, 1) := by decide +kernel
theorem g64_21 : m_get 64 21 = some (.bipush 10, 2) := by decide +kernel
theorem g64_23 : m_get 64 23 = some (.irem, 1) := by decide +kernel
theorem g64_24 : m_get 64 24 = some (.putfield 148, 3) := by decide +kernel
theorem g64_27 : m_get 64 27 = some (.aload_n 0, 1) := by decide +kernel
theorem g64_28 : m_get 64 28 = some (.dup, 1) := by decide +kernel
theorem g64_29 : m_get 64 29 = some (.getfield 93, 3) := by decide +kernel
theorem g64_32 : m_get 64 32 = some (.iconst 1, 1) := by decide +kernel
theorem g64_33 : m_get 64 33 = some (.isub, 1) := by decide +kernel
theorem g64_34 : m_get 64 34 = some (.putfield 93, 3) := by decide +kernel
theorem g64_37 : m_get 64 37 = some (.aload_n 0, 1) := by decide +kernel
theorem g64_38 : m_get 64 38 = some (.getfield 33, 3) := by decide +kernel
theorem g64_41 : m_get 64 41 = some (.aload_n 0, 1) := by decide +kernel
theorem g64_42 : m_get 64 42 = some (.getfield 40, 3) := by decide +kernel
theorem g64_45 : m_get 64 45 = some (.aload_n 0, 1) := by decide +kernel
theorem g64_46 : m_get 64 46 = some (.getfield 148, 3) := by decide +kernel
theorem g64_49 : m_get 64 49 = some (.aaload, 1) := by decide +kernel
theorem g64_50 : m_get 64 50 = some (.invokevirtual 151, 3) := by decide +kernel
theorem g64_53 : m_get 64 53 = some (.aload_n 0, 1) := by decide +kernel
theorem g64_54 : m_get 64 54 = some (.getfield 93, 3) := by decide +kernel
theorem g64_57 : m_get 64 57 = some (.ireturn, 1) := by decide +kernel
theorem f64_33 : m_fl (m_own 64) 33 = some (6, 5) := by decide +kernel
theorem f64_40 : m_fl (m_own 64) 40 = some (6, 7) := by decide +kernel
theorem f64_93 : m_fl (m_own 64) 93 = some (6, 9) := by decide +kernel
theorem f64_148 : m_fl (m_own 64) 148 = some (6, 8) := by decide +kernel
theorem k64_151 : m_ml (m_own 64) 151 = some (0, 15) := by decide +kernel
theorem g65_0 : m_get 65 0 = some (.aload_n 0, 1) := by decide +kernel
theorem g65_1 : m_get 65 1 = some (.iload_n 1, 1) := by decide +kernel
theorem g65_2 : m_get 65 2 = some (.invokevirtual 123, 3) := by decide +kernel
theorem g65_5 : m_get 65 5 = some (.ifCond .ne 5, 3) := by decide +kernel
theorem g65_8 : m_get 65 8 = some (.iconst (-1), 1) := by decide +kernel
theorem g65_9 : m_get 65 9 = some (.ireturn, 1) := by decide +kernel
theorem g65_10 : m_get 65 10 = some (.aload_n 0, 1) := by decide +kernel
theorem g65_11 : m_get 65 11 = some (.getfield 33, 3) := by decide +kernel
theorem g65_14 : m_get 65 14 = some (.getfield 135, 3) := by decide +kernel
theorem g65_17 : m_get 65 17 = some (.iload_n 1, 1) := by decide +kernel
theorem g65_18 : m_get 65 18 = some (.iaload, 1) := by decide +kernel
theorem g65_19 : m_get 65 19 = some (.ireturn, 1) := by decide +kernel
theorem f65_33 : m_fl (m_own 65) 33 = some (6, 5) := by decide +kernel
theorem f65_135 : m_fl (m_own 65) 135 = some (2, 0) := by decide +kernel
theorem k65_123 : m_ml (m_own 65) 123 = some (0, 83) := by decide +kernel
theorem g66_0 : m_get 66 0 = some (.aload_n 0, 1) := by decide +kernel
theorem g66_1 : m_get 66 1 = some (.iload_n 1, 1) := by decide +kernel
theorem g66_2 : m_get 66 2 = some (.invokevirtual 123, 3) := by decide +kernel
theorem g66_5 : m_get 66 5 = some (.ifCond .eq 11, 3) := by decide +kernel
theorem g66_8 : m_get 66 8 = some (.aload_n 0, 1) := by decide +kernel
theorem g66_9 : m_get 66 9 = some (.iload_n 2, 1) := by decide +kernel
theorem g66_10 : m_get 66 10 = some (.invokevirtual 117, 3) := by decide +kernel
theorem g66_13 : m_get 66 13 = some (.ifCond .ne 5, 3) := by decide +kernel
theorem g66_16 : m_get 66 16 = some (.iconst (-1), 1) := by decide +kernel
theorem g66_17 : m_get 66 17 = some (.ireturn, 1) := by decide +kernel
theorem g66_18 : m_get 66 18 = some (.aload_n 0, 1) := by decide +kernel
theorem g66_19 : m_get 66 19 = some (.getfield 33, 3) := by decide +kernel
theorem g66_22 : m_get 66 22 = some (.iload_n 1, 1) := by decide +kernel
theorem g66_23 : m_get 66 23 = some (.invokevirtual 126, 3) := by decide +kernel
theorem g66_26 : m_get 66 26 = some (.ifCond .ne 6, 3) := by decide +kernel
theorem g66_29 : m_get 66 29 = some (.bipush (-2), 2) := by decide +kernel
theorem g66_31 : m_get 66 31 = some (.ireturn, 1) := by decide +kernel
theorem g66_32 : m_get 66 32 = some (.aload_n 0, 1) := by decide +kernel
theorem g66_33 : m_get 66 33 = some (.iload_n 1, 1) := by decide +kernel
theorem g66_34 : m_get 66 34 = some (.iload_n 2, 1) := by decide +kernel
theorem g66_35 : m_get 66 35 = some (.invokevirtual 129, 3) := by decide +kernel
theorem g66_38 : m_get 66 38 = some (.ireturn, 1) := by decide +kernel
theorem f66_33 : m_fl (m_own 66) 33 = some (6, 5) := by decide +kernel
theorem k66_117 : m_ml (m_own 66) 117 = some (0, 82) := by decide +kernel
theorem k66_123 : m_ml (m_own 66) 123 = some (0, 83) := by decide +kernel
theorem k66_126 : m_ml (m_own 66) 126 = some (0, 17) := by decide +kernel
theorem k66_129 : m_ml (m_own 66) 129 = some (0, 90) := by decide +kernel
theorem g67_0 : m_get 67 0 = some (.aload_n 0, 1) := by decide +kernel
theorem g67_1 : m_get 67 1 = some (.iload_n 1, 1) := by decide +kernel
theorem g67_2 : m_get 67 2 = some (.invokevirtual 123, 3) := by decide +kernel
theorem g67_5 : m_get 67 5 = some (.ifCond .eq 8, 3) := by decide +kernel
theorem g67_8 : m_get 67 8 = some (.iload_n 2, 1) := by decide +kernel
theorem g67_9 : m_get 67 9 = some (.iconst (-1), 1) := by decide +kernel
theorem g67_10 : m_get 67 10 = some (.if_icmp .ge 5, 3) := by decide +kernel
theorem g67_13 : m_get 67 13 = some (.iconst (-1), 1) := by decide +kernel
theorem g67_14 : m_get 67 14 = some (.ireturn, 1) := by decide +kernel
theorem g67_15 : m_get 67 15 = some (.aload_n 0, 1) := by decide +kernel
theorem g67_16 : m_get 67 16 = some (.getfield 33, 3) := by decide +kernel
theorem g67_19 : m_get 67 19 = some (.iload_n 1, 1) := by decide +kernel
theorem g67_20 : m_get 67 20 = some (.invokevirtual 126, 3) := by decide +kernel
theorem g67_23 : m_get 67 23 = some (.ifCond .ne 6, 3) := by decide +kernel
theorem g67_26 : m_get 67 26 = some (.bipush (-2), 2) := by decide +kernel
theorem g67_28 : m_get 67 28 = some (.ireturn, 1) := by decide +kernel
theorem g67_29 : m_get 67 29 = some (.aload_n 0, 1) := by decide +kernel
theorem g67_30 : m_get 67 30 = some (.getfield 54, 3) := by decide +kernel
theorem g67_33 : m_get 67 33 = some (.aload_n 0, 1) := by decide +kernel
theorem g67_34 : m_get 67 34 = some (.getfield 23, 3) := by decide +kernel
theorem g67_37 : m_get 67 37 = some (.aload_n 0, 1) := by decide +kernel
theorem g67_38 : m_get 67 38 = some (.getfield 33, 3) := by decide +kernel
theorem g67_41 : m_get 67 41 = some (.invokevirtual 155, 3) := by decide +kernel
theorem g67_44 : m_get 67 44 = some (.aload_n 0, 1) := by decide +kernel
theorem g67_45 : m_get 67 45 = some (.getfield 54, 3) := by decide +kernel
theorem g67_48 : m_get 67 48 = some (.aload_n 0, 1) := by decide +kernel
theorem g67_49 : m_get 67 49 = some (.getfield 23, 3) := by decide +kernel
theorem g67_52 : m_get 67 52 = some (.aload_n 0, 1) := by decide +kernel
theorem g67_53 : m_get 67 53 = some (.getfield 33, 3) := by decide +kernel
theorem g67_56 : m_get 67 56 = some (.invokevirtual 158, 3) := by decide +kernel
theorem g67_59 : m_get 67 59 = some (.aload_n 0, 1) := by decide +kernel
theorem g67_60 : m_get 67 60 = some (.getfield 54, 3) := by decide +kernel
theorem g67_63 : m_get 67 63 = some (.getfield 161, 3) := by decide +kernel
theorem g67_66 : m_get 67 66 = some (.iload_n 1, 1) := by decide +kernel
theorem g67_67 : m_get 67 67 = some (.iaload, 1) := by decide +kernel
theorem g67_68 : m_get 67 68 = some (.istore_n 3, 1) := by decide +kernel
theorem g67_69 : m_get 67 69 = some (.iload_n 2, 1) := by decide +kernel
theorem g67_70 : m_get 67 70 = some (.iconst (-1), 1) := by decide +kernel
theorem g67_71 : m_get 67 71 = some (.if_icmp .ne 10, 3) := by decide +kernel
theorem g67_74 : m_get 67 74 = some (.iload_n 3, 1) := by decide +kernel
theorem g67_75 : m_get 67 75 = some (.invokestatic 164, 3) := by decide +kernel
theorem g67_78 : m_get 67 78 = some (.goto 8, 3) := by decide +kernel
theorem g67_81 : m_get 67 81 = some (.iload_n 3, 1) := by decide +kernel
theorem g67_82 : m_get 67 82 = some (.iload_n 2, 1) := by decide +kernel
theorem g67_83 : m_get 67 83 = some (.invokestatic 169, 3) := by decide +kernel
theorem g67_86 : m_get 67 86 = some (.ireturn, 1) := by decide +kernel
theorem f67_23 : m_fl (m_own 67) 23 = some (6, 3) := by decide +kernel
theorem f67_33 : m_fl (m_own 67) 33 = some (6, 5) := by decide +kernel
theorem f67_54 : m_fl (m_own 67) 54 = some (6, 12) := by decide +kernel
theorem f67_161 : m_fl (m_own 67) 161 = some (5, 0) := by decide +kernel
theorem k67_123 : m_ml (m_own 67) 123 = some (0, 83) := by decide +kernel
theorem k67_126 : m_ml (m_own 67) 126 = some (0, 17) := by decide +kernel
theorem k67_155 : m_ml (m_own 67) 155 = some (0, 48) := by decide +kernel
theorem k67_158 : m_ml (m_own 67) 158 = some (0, 49) := by decide +kernel
theorem k67_164 : m_ml (m_own 67) 164 = some (1, 162) := by decide +kernel
theorem k67_169 : m_ml (m_own 67) 169 = some (1, 95) := by decide +kernel
theorem g68_0 : m_get 68 0 = some (.iload_n 1, 1) := by decide +kernel
theorem g68_1 : m_get 68 1 = some (.ifCond .lt 12, 3) := by decide +kernel
theorem g68_4 : m_get 68 4 = some (.iload_n 2, 1) := by decide +kernel
theorem g68_5 : m_get 68 5 = some (.ifCond .lt 8, 3) := by decide +kernel
theorem g68_8 : m_get 68 8 = some (.iload_n 2, 1) := by decide +kernel
theorem g68_9 : m_get 68 9 = some (.iconst 2, 1) := by decide +kernel
theorem g68_10 : m_get 68 10 = some (.if_icmp .le 5, 3) := by decide +kernel
theorem g68_13 : m_get 68 13 = some (.iconst (-1), 1) := by decide +kernel
theorem g68_14 : m_get 68 14 = some (.ireturn, 1) := by decide +kernel
theorem g68_15 : m_get 68 15 = some (.aload_n 0, 1) := by decide +kernel
theorem g68_16 : m_get 68 16 = some (.getfield 23, 3) := by decide +kernel
theorem g68_19 : m_get 68 19 = some (.iload_n 1, 1) := by decide +kernel
theorem g68_20 : m_get 68 20 = some (.invokevirtual 172, 3) := by decide +kernel
theorem g68_23 : m_get 68 23 = some (.istore_n 3, 1) := by decide +kernel
theorem g68_24 : m_get 68 24 = some (.iload_n 3, 1) := by decide +kernel
theorem g68_25 : m_get 68 25 = some (.ifCond .lt 7, 3) := by decide +kernel
theorem g68_28 : m_get 68 28 = some (.iload_n 2, 1) := by decide +kernel
theorem g68_29 : m_get 68 29 = some (.ifCond .ne 5, 3) := by decide +kernel
theorem g68_32 : m_get 68 32 = some (.iload_n 3, 1) := by decide +kernel
theorem g68_33 : m_get 68 33 = some (.ireturn, 1) := by decide +kernel
theorem g68_34 : m_get 68 34 = some (.iload_n 2, 1) := by decide +kernel
theorem g68_35 : m_get 68 35 = some (.iconst 1, 1) := by decide +kernel
theorem g68_36 : m_get 68 36 = some (.if_icmp .ne 14, 3) := by decide +kernel
theorem g68_39 : m_get 68 39 = some (.aload_n 0, 1) := by decide +kernel
theorem g68_40 : m_get 68 40 = some (.getfield 23, 3) := by decide +kernel
theorem g68_43 : m_get 68 43 = some (.iload_n 3, 1) := by decide +kernel
theorem g68_44 : m_get 68 44 = some (.invokevirtual 175, 3) := by decide +kernel
theorem g68_47 : m_get 68 47 = some (.goto 15, 3) := by decide +kernel
theorem g68_50 : m_get 68 50 = some (.aload_n 0, 1) := by decide +kernel
theorem g68_51 : m_get 68 51 = some (.getfield 33, 3) := by decide +kernel
theorem g68_54 : m_get 68 54 = some (.aload_n 0, 1) := by decide +kernel
theorem g68_55 : m_get 68 55 = some (.getfield 23, 3) := by decide +kernel
theorem g68_58 : m_get 68 58 = some (.iload_n 3, 1) := by decide +kernel
theorem g68_59 : m_get 68 59 = some (.invokevirtual 178, 3) := by decide +kernel
theorem g68_62 : m_get 68 62 = some (.ireturn, 1) := by decide +kernel
theorem f68_23 : m_fl (m_own 68) 23 = some (6, 3) := by decide +kernel
theorem f68_33 : m_fl (m_own 68) 33 = some (6, 5) := by decide +kernel
theorem k68_172 : m_ml (m_own 68) 172 = some (0, 45) := by decide +kernel
theorem k68_175 : m_ml (m_own 68) 175 = some (0, 46) := by decide +kernel
theorem k68_178 : m_ml (m_own 68) 178 = some (0, 19) := by decide +kernel
theorem g69_0 : m_get 69 0 = some (.iload_n 1, 1) := by decide +kernel
theorem g69_1 : m_get 69 1 = some (.iconst 1, 1) := by decide +kernel
theorem g69_2 : m_get 69 2 = some (.if_icmp .lt 10, 3) := by decide +kernel
theorem g69_5 : m_get 69 5 = some (.iload_n 1, 1) := by decide +kernel
theorem g69_6 : m_get 69 6 = some (.sipush 300, 3) := by decide +kernel
theorem g69_9 : m_get 69 9 = some (.if_icmp .le 5, 3) := by decide +kernel
theorem g69_12 : m_get 69 12 = some (.iconst (-1), 1) := by decide +kernel
theorem g69_13 : m_get 69 13 = some (.ireturn, 1) := by decide +kernel
theorem g69_14 : m_get 69 14 = some (.aload_n 0, 1) := by decide +kernel
theorem g69_15 : m_get 69 15 = some (.aload_n 0, 1) := by decide +kernel
theorem g69_16 : m_get 69 16 = some (.getfield 33, 3) := by decide +kernel
theorem g69_19 : m_get 69 19 = some (.iload_n 1, 1) := by decide +kernel
theorem g69_20 : m_get 69 20 = some (.invokevirtual 182, 3) := by decide +kernel
theorem g69_23 : m_get 69 23 = some (.ireturn, 1) := by decide +kernel
theorem f69_33 : m_fl (m_own 69) 33 = some (6, 5) := by decide +kernel
theorem k69_182 : m_ml (m_own 69) 182 = some (0, 93) := by decide +kernel
theorem g70_0 : m_get 70 0 = some (.iload_n 1, 1) := by decide +kernel
theorem g70_1 : m_get 70 1 = some (.ifCond .lt 18, 3) := by decide +kernel
theorem g70_4 : m_get 70 4 = some (.iload_n 1, 1) := by decide +kernel
theorem g70_5 : m_get 70 5 = some (.sipush 300, 3) := by decide +kernel
theorem g70_8 : m_get 70 8 = some (.if_icmp .ge 11, 3) := by decide +kernel
theorem g70_11 : m_get 70 11 = some (.aload_n 0, 1) := by decide +kernel
theorem g70_12 : m_get 70 12 = some (.iload_n 2, 1) := by decide +kernel
theorem g70_13 : m_get 70 13 = some (.invokevirtual 123, 3) := by decide +kernel
theorem g70_16 : m_get 70 16 = some (.ifCond .ne 5, 3) := by decide +kernel
theorem g70_19 : m_get 70 19 = some (.iconst (-1), 1) := by decide +kernel
theorem g70_20 : m_get 70 20 = some (.ireturn, 1) := by decide +kernel
theorem g70_21 : m_get 70 21 = some (.aload_n 0, 1) := by decide +kernel
theorem g70_22 : m_get 70 22 = some (.aload_n 0, 1) := by decide +kernel
theorem g70_23 : m_get 70 23 = some (.getfield 33, 3) := by decide +kernel
theorem g70_26 : m_get 70 26 = some (.iload_n 1, 1) := by decide +kernel
theorem g70_27 : m_get 70 27 = some (.iconst 1, 1) := by decide +kernel
theorem g70_28 : m_get 70 28 = some (.iadd, 1) := by decide +kernel
theorem g70_29 : m_get 70 29 = some (.invokevirtual 182, 3) := by decide +kernel
theorem g70_32 : m_get 70 32 = some (.iload_n 1, 1) := by decide +kernel
theorem g70_33 : m_get 70 33 = some (.if_icmp .le 15, 3) := by decide +kernel
theorem g70_36 : m_get 70 36 = some (.aload_n 0, 1) := by decide +kernel
theorem g70_37 : m_get 70 37 = some (.getfield 61, 3) := by decide +kernel
theorem g70_40 : m_get 70 40 = some (.getfield 186, 3) := by decide +kernel
theorem g70_43 : m_get 70 43 = some (.iload_n 2, 1) := by decide +kernel
theorem g70_44 : m_get 70 44 = some (.iaload, 1) := by decide +kernel
theorem g70_45 : m_get 70 45 = some (.goto 5, 3) := by decide +kernel
theorem g70_48 : m_get 70 48 = some (.bipush (-9), 2) := by decide +kernel
theorem g70_50 : m_get 70 50 = some (.ireturn, 1) := by decide +kernel
theorem f70_33 : m_fl (m_own 70) 33 = some (6, 5) := by decide +kernel
theorem f70_61 : m_fl (m_own 70) 61 = some (6, 13) := by decide +kernel
theorem f70_186 : m_fl (m_own 70) 186 = some (1, 0) := by decide +kernel
theorem k70_123 : m_ml (m_own 70) 123 = some (0, 83) := by decide +kernel
theorem k70_182 : m_ml (m_own 70) 182 = some (0, 93) := by decide +kernel
theorem g71_0 : m_get 71 0 = some (.aload_n 0, 1) := by decide +kernel
theorem g71_1 : m_get 71 1 = some (.aload_n 0, 1) := by decide +kernel
theorem g71_2 : m_get 71 2 = some (.getfield 33, 3) := by decide +kernel
theorem g71_5 : m_get 71 5 = some (.iconst 1, 1) := by decide +kernel
theorem g71_6 : m_get 71 6 = some (.invokevirtual 182, 3) := by decide +kernel
theorem g71_9 : m_get 71 9 = some (.iconst 1, 1) := by decide +kernel
theorem g71_10 : m_get 71 10 = some (.if_icmp .ge 5, 3) := by decide +kernel
theorem g71_13 : m_get 71 13 = some (.iconst 0, 1) := by decide +kernel
theorem g71_14 : m_get 71 14 = some (.ireturn, 1) := by decide +kernel
theorem g71_15 : m_get 71 15 = some (.aload_n 0, 1) := by decide +kernel
theorem g71_16 : m_get 71 16 = some (.getfield 61, 3) := by decide +kernel
theorem g71_19 : m_get 71 19 = some (.getfield 186, 3) := by decide +kernel
theorem g71_22 : m_get 71 22 = some (.iconst 0, 1) := by decide +kernel
theorem g71_23 : m_get 71 23 = some (.aload_n 0, 1) := by decide +kernel
theorem g71_24 : m_get 71 24 = some (.getfield 72, 3) := by decide +kernel
theorem g71_27 : m_get 71 27 = some (.iconst 0, 1) := by decide +kernel
theorem g71_28 : m_get 71 28 = some (.bipush 6, 2) := by decide +kernel
theorem g71_30 : m_get 71 30 = some (.invokestatic 189, 3) := by decide +kernel
theorem g71_33 : m_get 71 33 = some (.iconst 0, 1) := by decide +kernel
theorem g71_34 : m_get 71 34 = some (.istore_n 1, 1) := by decide +kernel
theorem g71_35 : m_get 71 35 = some (.iconst 0, 1) := by decide +kernel
theorem g71_36 : m_get 71 36 = some (.istore_n 2, 1) := by decide +kernel
theorem g71_37 : m_get 71 37 = some (.iload_n 2, 1) := by decide +kernel
theorem g71_38 : m_get 71 38 = some (.aload_n 0, 1) := by decide +kernel
theorem g71_39 : m_get 71 39 = some (.getfield 23, 3) := by decide +kernel
theorem g71_42 : m_get 71 42 = some (.invokevirtual 142, 3) := by decide +kernel
theorem g71_45 : m_get 71 45 = some (.if_icmp .ge 26, 3) := by decide +kernel
theorem g71_48 : m_get 71 48 = some (.aload_n 0, 1) := by decide +kernel
theorem g71_49 : m_get 71 49 = some (.getfield 33, 3) := by decide +kernel
theorem g71_52 : m_get 71 52 = some (.iload_n 2, 1) := by decide +kernel
theorem g71_53 : m_get 71 53 = some (.invokevirtual 126, 3) := by decide +kernel
theorem g71_56 : m_get 71 56 = some (.ifCond .eq 9, 3) := by decide +kernel
theorem g71_59 : m_get 71 59 = some (.iload_n 1, 1) := by decide +kernel
theorem g71_60 : m_get 71 60 = some (.iconst 1, 1) := by decide +kernel
theorem g71_61 : m_get 71 61 = some (.iload_n 2, 1) := by decide +kernel
theorem g71_62 : m_get 71 62 = some (.ishl, 1) := by decide +kernel
theorem g71_63 : m_get 71 63 = some (.ior, 1) := by decide +kernel
theorem g71_64 : m_get 71 64 = some (.istore_n 1, 1) := by decide +kernel
theorem g71_65 : m_get 71 65 = some (.iinc 2 1, 3) := by decide +kernel
theorem g71_68 : m_get 71 68 = some (.goto (-31), 3) := by decide +kernel
theorem g71_71 : m_get 71 71 = some (.iconst 0, 1) := by decide +kernel
theorem g71_72 : m_get 71 72 = some (.istore_n 2, 1) := by decide +kernel
theorem g71_73 : m_get 71 73 = some (.iload_n 2, 1) := by decide +kernel
theorem g71_74 : m_get 71 74 = some (.bipush 6, 2) := by decide +kernel
theorem g71_76 : m_get 71 76 = some (.if_icmp .ge 25, 3) := by decide +kernel
theorem g71_79 : m_get 71 79 = some (.iload_n 1, 1) := by decide +kernel
theorem g71_80 : m_get 71 80 = some (.iload_n 2, 1) := by decide +kernel
theorem g71_81 : m_get 71 81 = some (.ishr, 1) := by decide +kernel
theorem g71_82 : m_get 71 82 = some (.iconst 1, 1) := by decide +kernel
theorem g71_83 : m_get 71 83 = some (.iand, 1) := by decide +kernel
theorem g71_84 : m_get 71 84 = some (.iconst 1, 1) := by decide +kernel
theorem g71_85 : m_get 71 85 = some (.if_icmp .ne 10, 3) := by decide +kernel
theorem g71_88 : m_get 71 88 = some (.aload_n 0, 1) := by decide +kernel
theorem g71_89 : m_get 71 89 = some (.iload_n 2, 1) := by decide +kernel
theorem g71_90 : m_get 71 90 = some (.iload_n 1, 1) := by decide +kernel
theorem g71_91 : m_get 71 91 = some (.invokevirtual 195, 3) := by decide +kernel
theorem g71_94 : m_get 71 94 = some (.istore_n 1, 1) := by decide +kernel
theorem g71_95 : m_get 71 95 = some (.iinc 2 1, 3) := by decide +kernel
theorem g71_98 : m_get 71 98 = some (.goto (-25), 3) := by decide +kernel
theorem g71_101 : m_get 71 101 = some (.iload_n 1, 1) := by decide +kernel
theorem g71_102 : m_get 71 102 = some (.ireturn, 1) := by decide +kernel
theorem f71_23 : m_fl (m_own 71) 23 = some (6, 3) := by decide +kernel
theorem f71_33 : m_fl (m_own 71) 33 = some (6, 5) := by decide +kernel
theorem f71_61 : m_fl (m_own 71) 61 = some (6, 13) := by decide +kernel
theorem f71_72 : m_fl (m_own 71) 72 = some (6, 15) := by decide +kernel
theorem f71_186 : m_fl (m_own 71) 186 = some (1, 0) := by decide +kernel
theorem k71_126 : m_ml (m_own 71) 126 = some (0, 17) := by decide +kernel
theorem k71_142 : m_ml (m_own 71) 142 = some (0, 36) := by decide +kernel
theorem k71_182 : m_ml (m_own 71) 182 = some (0, 93) := by decide +kernel
theorem k71_189 : m_ml (m_own 71) 189 = some (6, 0) := by decide +kernel
theorem k71_195 : m_ml (m_own 71) 195 = some (0, 94) := by decide +kernel
theorem g72_0 : m_get 72 0 = some (.aload_n 0, 1) := by decide +kernel
theorem g72_1 : m_get 72 1 = some (.getfield 54, 3) := by decide +kernel
theorem g72_4 : m_get 72 4 = some (.aload_n 0, 1) := by decide +kernel
theorem g72_5 : m_get 72 5 = some (.getfield 23, 3) := by decide +kernel
theorem g72_8 : m_get 72 8 = some (.aload_n 0, 1) := by decide +kernel
theorem g72_9 : m_get 72 9 = some (.getfield 33, 3) := by decide +kernel
theorem g72_12 : m_get 72 12 = some (.invokevirtual 155, 3) := by decide +kernel
theorem g72_15 : m_get 72 15 = some (.aload_n 0, 1) := by decide +kernel
theorem g72_16 : m_get 72 16 = some (.getfield 54, 3) := by decide +kernel
theorem g72_19 : m_get 72 19 = some (.aload_n 0, 1) := by decide +kernel
theorem g72_20 : m_get 72 20 = some (.getfield 23, 3) := by decide +kernel
theorem g72_23 : m_get 72 23 = some (.aload_n 0, 1) := by decide +kernel
theorem g72_24 : m_get 72 24 = some (.getfield 33, 3) := by decide +kernel
theorem g72_27 : m_get 72 27 = some (.invokevirtual 158, 3) := by decide +kernel
theorem g72_30 : m_get 72 30 = some (.bipush (-9), 2) := by decide +kernel
theorem g72_32 : m_get 72 32 = some (.istore_n 1, 1) := by decide +kernel
theorem g72_33 : m_get 72 33 = some (.bipush 25, 2) := by decide +kernel
theorem g72_35 : m_get 72 35 = some (.istore_n 2, 1) := by decide +kernel
theorem g72_36 : m_get 72 36 = some (.iconst 0, 1) := by decide +kernel
theorem g72_37 : m_get 72 37 = some (.istore_n 3, 1) := by decide +kernel
theorem g72_38 : m_get 72 38 = some (.iload_n 3, 1) := by decide +kernel
theorem g72_39 : m_get 72 39 = some (.aload_n 0, 1) := by decide +kernel
theorem g72_40 : m_get 72 40 = some (.getfield 23, 3) := by decide +kernel
theorem g72_43 : m_get 72 43 = some (.invokevirtual 142, 3) := by decide +kernel
theorem g72_46 : m_get 72 46 = some (.if_icmp .ge 45, 3) := by decide +kernel
theorem g72_49 : m_get 72 49 = some (.aload_n 0, 1) := by decide +kernel
theorem g72_50 : m_get 72 50 = some (.getfield 54, 3) := by decide +kernel
theorem g72_53 : m_get 72 53 = some (.getfield 161, 3) := by decide +kernel
theorem g72_56 : m_get 72 56 = some (.iload_n 3, 1) := by decide +kernel
theorem g72_57 : m_get 72 57 = some (.iaload, 1) := by decide +kernel
theorem g72_58 : m_get 72 58 = some (.invokestatic 164, 3) := by decide +kernel
theorem g72_61 : m_get 72 61 = some (.istore 4, 2) := by decide +kernel
theorem g72_63 : m_get 72 63 = some (.aload_n 0, 1) := by decide +kernel
theorem g72_64 : m_get 72 64 = some (.getfield 33, 3) := by decide +kernel
theorem g72_67 : m_get 72 67 = some (.iload_n 3, 1) := by decide +kernel
theorem g72_68 : m_get 72 68 = some (.invokevirtual 126, 3) := by decide +kernel
theorem g72_71 : m_get 72 71 = some (.ifCond .eq 14, 3) := by decide +kernel
theorem g72_74 : m_get 72 74 = some (.iload 4, 2) := by decide +kernel
theorem g72_76 : m_get 72 76 = some (.iload_n 2, 1) := by decide +kernel
theorem g72_77 : m_get 72 77 = some (.if_icmp .ge 8, 3) := by decide +kernel
theorem g72_80 : m_get 72 80 = some (.iload_n 3, 1) := by decide +kernel
theorem g72_81 : m_get 72 81 = some (.istore_n 1, 1) := by decide +kernel
theorem g72_82 : m_get 72 82 = some (.iload 4, 2) := by decide +kernel
theorem g72_84 : m_get 72 84 = some (.istore_n 2, 1) := by decide +kernel
theorem g72_85 : m_get 72 85 = some (.iinc 3 1, 3) := by decide +kernel
theorem g72_88 : m_get 72 88 = some (.goto (-50), 3) := by decide +kernel
theorem g72_91 : m_get 72 91 = some (.iload_n 1, 1) := by decide +kernel
theorem g72_92 : m_get 72 92 = some (.ireturn, 1) := by decide +kernel
theorem f72_23 : m_fl (m_own 72) 23 = some (6, 3) := by decide +kernel
theorem f72_33 : m_fl (m_own 72) 33 = some (6, 5) := by decide +kernel
theorem f72_54 : m_fl (m_own 72) 54 = some (6, 12) := by decide +kernel
theorem f72_161 : m_fl (m_own 72) 161 = some (5, 0) := by decide +kernel
theorem k72_126 : m_ml (m_own 72) 126 = some (0, 17) := by decide +kernel
theorem k72_142 : m_ml (m_own 72) 142 = some (0, 36) := by decide +kernel
theorem k72_155 : m_ml (m_own 72) 155 = some (0, 48) := by decide +kernel
theorem k72_158 : m_ml (m_own 72) 158 = some (0, 49) := by decide +kernel
theorem k72_164 : m_ml (m_own 72) 164 = some (1, 162) := by decide +kernel
theorem g73_0 : m_get 73 0 = some (.aload_n 0, 1) := by decide +kernel
theorem g73_1 : m_get 73 1 = some (.iload_n 1, 1) := by decide +kernel
theorem g73_2 : m_get 73 2 = some (.invokevirtual 99, 3) := by decide +kernel
theorem g73_5 : m_get 73 5 = some (.ifCond .ne 5, 3) := by decide +kernel
theorem g73_8 : m_get 73 8 = some (.iconst (-1), 1) := by decide +kernel
theorem g73_9 : m_get 73 9 = some (.ireturn, 1) := by decide +kernel
theorem g73_10 : m_get 73 10 = some (.aload_n 0, 1) := by decide +kernel
theorem g73_11 : m_get 73 11 = some (.getfield 37, 3) := by decide +kernel
theorem g73_14 : m_get 73 14 = some (.aload_n 0, 1) := by decide +kernel
theorem g73_15 : m_get 73 15 = some (.getfield 33, 3) := by decide +kernel
theorem g73_18 : m_get 73 18 = some (.invokevirtual 151, 3) := by decide +kernel
theorem g73_21 : m_get 73 21 = some (.aload_n 0, 1) := by decide +kernel
theorem g73_22 : m_get 73 22 = some (.getfield 37, 3) := by decide +kernel
theorem g73_25 : m_get 73 25 = some (.getfield 106, 3) := by decide +kernel
theorem g73_28 : m_get 73 28 = some (.iload_n 1, 1) := by decide +kernel
theorem g73_29 : m_get 73 29 = some (.bipush 9, 2) := by decide +kernel
theorem g73_31 : m_get 73 31 = some (.iastore, 1) := by decide +kernel
theorem g73_32 : m_get 73 32 = some (.aload_n 0, 1) := by decide +kernel
theorem g73_33 : m_get 73 33 = some (.aload_n 0, 1) := by decide +kernel
theorem g73_34 : m_get 73 34 = some (.getfield 37, 3) := by decide +kernel
theorem g73_37 : m_get 73 37 = some (.iconst 1, 1) := by decide +kernel
theorem g73_38 : m_get 73 38 = some (.invokevirtual 182, 3) := by decide +kernel
theorem g73_41 : m_get 73 41 = some (.iconst 1, 1) := by decide +kernel
theorem g73_42 : m_get 73 42 = some (.if_icmp .ge 6, 3) := by decide +kernel
theorem g73_45 : m_get 73 45 = some (.bipush (-9), 2) := by decide +kernel
theorem g73_47 : m_get 73 47 = some (.ireturn, 1) := by decide +kernel
theorem g73_48 : m_get 73 48 = some (.iconst 0, 1) := by decide +kernel
theorem g73_49 : m_get 73 49 = some (.istore_n 2, 1) := by decide +kernel
theorem g73_50 : m_get 73 50 = some (.iload_n 2, 1) := by decide +kernel
theorem g73_51 : m_get 73 51 = some (.bipush 9, 2) := by decide +kernel
theorem g73_53 : m_get 73 53 = some (.if_icmp .ge 33, 3) := by decide +kernel
theorem g73_56 : m_get 73 56 = some (.aload_n 0, 1) := by decide +kernel
theorem g73_57 : m_get 73 57 = some (.getfield 37, 3) := by decide +kernel
theorem g73_60 : m_get 73 60 = some (.getfield 106, 3) := by decide +kernel
theorem g73_63 : m_get 73 63 = some (.iload_n 1, 1) := by decide +kernel
theorem g73_64 : m_get 73 64 = some (.iload_n 2, 1) := by decide +kernel
theorem g73_65 : m_get 73 65 = some (.iastore, 1) := by decide +kernel
theorem g73_66 : m_get 73 66 = some (.aload_n 0, 1) := by decide +kernel
theorem g73_67 : m_get 73 67 = some (.aload_n 0, 1) := by decide +kernel
theorem g73_68 : m_get 73 68 = some (.getfield 37, 3) := by decide +kernel
theorem g73_71 : m_get 73 71 = some (.iconst 1, 1) := by decide +kernel
theorem g73_72 : m_get 73 72 = some (.invokevirtual 182, 3) := by decide +kernel
theorem g73_75 : m_get 73 75 = some (.ifCond .le 5, 3) := by decide +kernel
theorem g73_78 : m_get 73 78 = some (.iload_n 2, 1) := by decide +kernel
theorem g73_79 : m_get 73 79 = some (.ireturn, 1) := by decide +kernel
theorem g73_80 : m_get 73 80 = some (.iinc 2 1, 3) := by decide +kernel
theorem g73_83 : m_get 73 83 = some (.goto (-33), 3) := by decide +kernel
theorem g73_86 : m_get 73 86 = some (.bipush 9, 2) := by decide +kernel
theorem g73_88 : m_get 73 88 = some (.ireturn, 1) := by decide +kernel
theorem f73_33 : m_fl (m_own 73) 33 = some (6, 5) := by decide +kernel
theorem f73_37 : m_fl (m_own 73) 37 = some (6, 6) := by decide +kernel
theorem f73_106 : m_fl (m_own 73) 106 = some (2, 1) := by decide +kernel
theorem k73_99 : m_ml (m_own 73) 99 = some (0, 81) := by decide +kernel
theorem k73_151 : m_ml (m_own 73) 151 = some (0, 15) := by decide +kernel
theorem k73_182 : m_ml (m_own 73) 182 = some (0, 93) := by decide +kernel
theorem g74_0 : m_get 74 0 = some (.iload_n 1, 1) := by decide +kernel
theorem g74_1 : m_get 74 1 = some (.invokestatic 198, 3) := by decide +kernel
theorem g74_4 : m_get 74 4 = some (.ifCond .eq 12, 3) := by decide +kernel
theorem g74_7 : m_get 74 7 = some (.iload_n 2, 1) := by decide +kernel
theorem g74_8 : m_get 74 8 = some (.ifCond .lt 8, 3) := by decide +kernel
theorem g74_11 : m_get 74 11 = some (.iload_n 2, 1) := by decide +kernel
theorem g74_12 : m_get 74 12 = some (.iconst 1, 1) := by decide +kernel
theorem g74_13 : m_get 74 13 = some (.if_icmp .le 5, 3) := by decide +kernel
theorem g74_16 : m_get 74 16 = some (.iconst (-1), 1) := by decide +kernel
theorem g74_17 : m_get 74 17 = some (.ireturn, 1) := by decide +kernel
theorem g74_18 : m_get 74 18 = some (.iload_n 2, 1) := by decide +kernel
theorem g74_19 : m_get 74 19 = some (.ifCond .ne 15, 3) := by decide +kernel
theorem g74_22 : m_get 74 22 = some (.aload_n 0, 1) := by decide +kernel
theorem g74_23 : m_get 74 23 = some (.getfield 68, 3) := by decide +kernel
theorem g74_26 : m_get 74 26 = some (.getfield 201, 3) := by decide +kernel
theorem g74_29 : m_get 74 29 = some (.iload_n 1, 1) := by decide +kernel
theorem g74_30 : m_get 74 30 = some (.iaload, 1) := by decide +kernel
theorem g74_31 : m_get 74 31 = some (.goto 12, 3) := by decide +kernel
theorem g74_34 : m_get 74 34 = some (.aload_n 0, 1) := by decide +kernel
theorem g74_35 : m_get 74 35 = some (.getfield 68, 3) := by decide +kernel
theorem g74_38 : m_get 74 38 = some (.getfield 204, 3) := by decide +kernel
theorem g74_41 : m_get 74 41 = some (.iload_n 1, 1) := by decide +kernel
theorem g74_42 : m_get 74 42 = some (.iaload, 1) := by decide +kernel
theorem g74_43 : m_get 74 43 = some (.ireturn, 1) := by decide +kernel
theorem f74_68 : m_fl (m_own 74) 68 = some (6, 14) := by decide +kernel
theorem f74_201 : m_fl (m_own 74) 201 = some (0, 0) := by decide +kernel
theorem f74_204 : m_fl (m_own 74) 204 = some (0, 1) := by decide +kernel
theorem k74_198 : m_ml (m_own 74) 198 = some (1, 84) := by decide +kernel
theorem g75_0 : m_get 75 0 = some (.iload_n 1, 1) := by decide +kernel
theorem g75_1 : m_get 75 1 = some (.iload_n 2, 1) := by decide +kernel
theorem g75_2 : m_get 75 2 = some (.invokestatic 207, 3) := by decide +kernel
theorem g75_5 : m_get 75 5 = some (.ifCond .ne 5, 3) := by decide +kernel
theorem g75_8 : m_get 75 8 = some (.iconst (-1), 1) := by decide +kernel
theorem g75_9 : m_get 75 9 = some (.ireturn, 1) := by decide +kernel
theorem g75_10 : m_get 75 10 = some (.aload_n 0, 1) := by decide +kernel
theorem g75_11 : m_get 75 11 = some (.getfield 68, 3) := by decide +kernel
theorem g75_14 : m_get 75 14 = some (.invokevirtual 211, 3) := by decide +kernel
theorem g75_17 : m_get 75 17 = some (.aload_n 0, 1) := by decide +kernel
theorem g75_18 : m_get 75 18 = some (.getfield 68, 3) := by decide +kernel
theorem g75_21 : m_get 75 21 = some (.getfield 214, 3) := by decide +kernel
theorem g75_24 : m_get 75 24 = some (.iload_n 1, 1) := by decide +kernel
theorem g75_25 : m_get 75 25 = some (.iload_n 2, 1) := by decide +kernel
theorem g75_26 : m_get 75 26 = some (.invokestatic 217, 3) := by decide +kernel
theorem g75_29 : m_get 75 29 = some (.iaload, 1) := by decide +kernel
theorem g75_30 : m_get 75 30 = some (.ireturn, 1) := by decide +kernel
theorem f75_68 : m_fl (m_own 75) 68 = some (6, 14) := by decide +kernel
theorem f75_214 : m_fl (m_own 75) 214 = some (0, 2) := by decide +kernel
theorem k75_207 : m_ml (m_own 75) 207 = some (1, 85) := by decide +kernel
theorem k75_211 : m_ml (m_own 75) 211 = some (0, 3) := by decide +kernel
theorem k75_217 : m_ml (m_own 75) 217 = some (1, 1) := by decide +kernel
theorem g76_0 : m_get 76 0 = some (.iload_n 1, 1) := by decide +kernel
theorem g76_1 : m_get 76 1 = some (.iload_n 2, 1) := by decide +kernel
theorem g76_2 : m_get 76 2 = some (.invokestatic 207, 3) := by decide +kernel
theorem g76_5 : m_get 76 5 = some (.ifCond .ne 5, 3) := by decide +kernel
theorem g76_8 : m_get 76 8 = some (.iconst (-1), 1) := by decide +kernel
theorem g76_9 : m_get 76 9 = some (.ireturn, 1) := by decide +kernel
theorem g76_10 : m_get 76 10 = some (.aload_n 0, 1) := by decide +kernel
theorem g76_11 : m_get 76 11 = some (.getfield 68, 3) := by decide +kernel
theorem g76_14 : m_get 76 14 = some (.invokevirtual 211, 3) := by decide +kernel
theorem g76_17 : m_get 76 17 = some (.aload_n 0, 1) := by decide +kernel
theorem g76_18 : m_get 76 18 = some (.getfield 68, 3) := by decide +kernel
theorem g76_21 : m_get 76 21 = some (.getfield 220, 3) := by decide +kernel
theorem g76_24 : m_get 76 24 = some (.iload_n 1, 1) := by decide +kernel
theorem g76_25 : m_get 76 25 = some (.iload_n 2, 1) := by decide +kernel
theorem g76_26 : m_get 76 26 = some (.invokestatic 217, 3) := by decide +kernel
theorem g76_29 : m_get 76 29 = some (.iaload, 1) := by decide +kernel
theorem g76_30 : m_get 76 30 = some (.ireturn, 1) := by decide +kernel
theorem f76_68 : m_fl (m_own 76) 68 = some (6, 14) := by decide +kernel
theorem f76_220 : m_fl (m_own 76) 220 = some (0, 3) := by decide +kernel
theorem k76_207 : m_ml (m_own 76) 207 = some (1, 85) := by decide +kernel
theorem k76_211 : m_ml (m_own 76) 211 = some (0, 3) := by decide +kernel
theorem k76_217 : m_ml (m_own 76) 217 = some (1, 1) := by decide +kernel
theorem g77_0 : m_get 77 0 = some (.iload_n 1, 1) := by decide +kernel
theorem g77_1 : m_get 77 1 = some (.iload_n 2, 1) := by decide +kernel
theorem g77_2 : m_get 77 2 = some (.invokestatic 207, 3) := by decide +kernel
theorem g77_5 : m_get 77 5 = some (.ifCond .eq 10, 3) := by decide +kernel
theorem g77_8 : m_get 77 8 = some (.iload_n 3, 1) := by decide +kernel
theorem g77_9 : m_get 77 9 = some (.invokestatic 198, 3) := by decide +kernel
theorem g77_12 : m_get 77 12 = some (.ifCond .ne 5, 3) := by decide +kernel
theorem g77_15 : m_get 77 15 = some (.iconst (-1), 1) := by decide +kernel
theorem g77_16 : m_get 77 16 = some (.ireturn, 1) := by decide +kernel
theorem g77_17 : m_get 77 17 = some (.aload_n 0, 1) := by decide +kernel
theorem g77_18 : m_get 77 18 = some (.getfield 68, 3) := by decide +kernel
theorem g77_21 : m_get 77 21 = some (.invokevirtual 211, 3) := by decide +kernel
theorem g77_24 : m_get 77 24 = some (.aload_n 0, 1) := by decide +kernel
theorem g77_25 : m_get 77 25 = some (.getfield 68, 3) := by decide +kernel
theorem g77_28 : m_get 77 28 = some (.getfield 223, 3) := by decide +kernel
theorem g77_31 : m_get 77 31 = some (.iload_n 3, 1) := by decide +kernel
theorem g77_32 : m_get 77 32 = some (.sipush 625, 3) := by decide +kernel
theorem g77_35 : m_get 77 35 = some (.imul, 1) := by decide +kernel
theorem g77_36 : m_get 77 36 = some (.iload_n 1, 1) := by decide +kernel
theorem g77_37 : m_get 77 37 = some (.iload_n 2, 1) := by decide +kernel
theorem g77_38 : m_get 77 38 = some (.invokestatic 217, 3) := by decide +kernel
theorem g77_41 : m_get 77 41 = some (.iadd, 1) := by decide +kernel
theorem g77_42 : m_get 77 42 = some (.iaload, 1) := by decide +kernel
theorem g77_43 : m_get 77 43 = some (.ireturn, 1) := by decide +kernel
theorem f77_68 : m_fl (m_own 77) 68 = some (6, 14) := by decide +kernel
theorem f77_223 : m_fl (m_own 77) 223 = some (0, 4) := by decide +kernel
theorem k77_198 : m_ml (m_own 77) 198 = some (1, 84) := by decide +kernel
theorem k77_207 : m_ml (m_own 77) 207 = some (1, 85) := by decide +kernel
theorem k77_211 : m_ml (m_own 77) 211 = some (0, 3) := by decide +kernel
theorem k77_217 : m_ml (m_own 77) 217 = some (1, 1) := by decide +kernel
theorem g78_0 : m_get 78 0 = some (.iload_n 1, 1) := by decide +kernel
theorem g78_1 : m_get 78 1 = some (.invokestatic 226, 3) := by decide +kernel
theorem g78_4 : m_get 78 4 = some (.ifCond .ne 5, 3) := by decide +kernel
theorem g78_7 : m_get 78 7 = some (.iconst (-1), 1) := by decide +kernel
theorem g78_8 : m_get 78 8 = some (.ireturn, 1) := by decide +kernel
theorem g78_9 : m_get 78 9 = some (.aload_n 0, 1) := by decide +kernel
theorem g78_10 : m_get 78 10 = some (.getfield 44, 3) := by decide +kernel
theorem g78_13 : m_get 78 13 = some (.iload_n 1, 1) := by decide +kernel
theorem g78_14 : m_get 78 14 = some (.aaload, 1) := by decide +kernel
theorem g78_15 : m_get 78 15 = some (.aload_n 0, 1) := by decide +kernel
theorem g78_16 : m_get 78 16 = some (.getfield 33, 3) := by decide +kernel
theorem g78_19 : m_get 78 19 = some (.invokevirtual 151, 3) := by decide +kernel
theorem g78_22 : m_get 78 22 = some (.aload_n 0, 1) := by decide +kernel
theorem g78_23 : m_get 78 23 = some (.getfield 47, 3) := by decide +kernel
theorem g78_26 : m_get 78 26 = some (.iload_n 1, 1) := by decide +kernel
theorem g78_27 : m_get 78 27 = some (.iconst 1, 1) := by decide +kernel
theorem g78_28 : m_get 78 28 = some (.bastore, 1) := by decide +kernel
theorem g78_29 : m_get 78 29 = some (.aload_n 0, 1) := by decide +kernel
theorem g78_30 : m_get 78 30 = some (.invokevirtual 138, 3) := by decide +kernel
theorem g78_33 : m_get 78 33 = some (.ireturn, 1) := by decide +kernel
theorem f78_33 : m_fl (m_own 78) 33 = some (6, 5) := by decide +kernel
theorem f78_44 : m_fl (m_own 78) 44 = some (6, 10) := by decide +kernel
theorem f78_47 : m_fl (m_own 78) 47 = some (6, 11) := by decide +kernel
theorem k78_138 : m_ml (m_own 78) 138 = some (0, 87) := by decide +kernel
theorem k78_151 : m_ml (m_own 78) 151 = some (0, 15) := by decide +kernel
theorem k78_226 : m_ml (m_own 78) 226 = some (1, 86) := by decide +kernel
theorem g79_0 : m_get 79 0 = some (.iload_n 1, 1) := by decide +kernel
theorem g79_1 : m_get 79 1 = some (.invokestatic 226, 3) := by decide +kernel
theorem g79_4 : m_get 79 4 = some (.ifCond .ne 5, 3) := by decide +kernel
theorem g79_7 : m_get 79 7 = some (.iconst (-1), 1) := by decide +kernel
theorem g79_8 : m_get 79 8 = some (.ireturn, 1) := by decide +kernel
theorem g79_9 : m_get 79 9 = some (.aload_n 0, 1) := by decide +kernel
theorem g79_10 : m_get 79 10 = some (.getfield 47, 3) := by decide +kernel
theorem g79_13 : m_get 79 13 = some (.iload_n 1, 1) := by decide +kernel
theorem g79_14 : m_get 79 14 = some (.baload, 1) := by decide +kernel
theorem g79_15 : m_get 79 15 = some (.ifCond .ne 6, 3) := by decide +kernel
theorem g79_18 : m_get 79 18 = some (.bipush (-2), 2) := by decide +kernel
theorem g79_20 : m_get 79 20 = some (.ireturn, 1) := by decide +kernel
theorem g79_21 : m_get 79 21 = some (.aload_n 0, 1) := by decide +kernel
theorem g79_22 : m_get 79 22 = some (.getfield 33, 3) := by decide +kernel
theorem g79_25 : m_get 79 25 = some (.aload_n 0, 1) := by decide +kernel
theorem g79_26 : m_get 79 26 = some (.getfield 44, 3) := by decide +kernel
theorem g79_29 : m_get 79 29 = some (.iload_n 1, 1) := by decide +kernel
theorem g79_30 : m_get 79 30 = some (.aaload, 1) := by decide +kernel
theorem g79_31 : m_get 79 31 = some (.invokevirtual 151, 3) := by decide +kernel
theorem g79_34 : m_get 79 34 = some (.aload_n 0, 1) := by decide +kernel
theorem g79_35 : m_get 79 35 = some (.iconst 0, 1) := by decide +kernel
theorem g79_36 : m_get 79 36 = some (.putfield 93, 3) := by decide +kernel
theorem g79_39 : m_get 79 39 = some (.aload_n 0, 1) := by decide +kernel
theorem g79_40 : m_get 79 40 = some (.invokevirtual 138, 3) := by decide +kernel
theorem g79_43 : m_get 79 43 = some (.ireturn, 1) := by decide +kernel
theorem f79_33 : m_fl (m_own 79) 33 = some (6, 5) := by decide +kernel
theorem f79_44 : m_fl (m_own 79) 44 = some (6, 10) := by decide +kernel
theorem f79_47 : m_fl (m_own 79) 47 = some (6, 11) := by decide +kernel
theorem f79_93 : m_fl (m_own 79) 93 = some (6, 9) := by decide +kernel
theorem k79_138 : m_ml (m_own 79) 138 = some (0, 87) := by decide +kernel
theorem k79_151 : m_ml (m_own 79) 151 = some (0, 15) := by decide +kernel
theorem k79_226 : m_ml (m_own 79) 226 = some (1, 86) := by decide +kernel
theorem g80_0 : m_get 80 0 = some (.iload_n 1, 1) := by decide +kernel
theorem g80_1 : m_get 80 1 = some (.tableswitch 138 0 10 #[59, 67, 75, 83, 91, 99, 107, 115, 120, 125, 130], 59) := by decide +kernel
theorem g80_60 : m_get 80 60 = some (.aload_n 0, 1) := by decide +kernel
theorem g80_61 : m_get 80 61 = some (.getfield 23, 3) := by decide +kernel
theorem g80_64 : m_get 80 64 = some (.getfield 229, 3) := by decide +kernel
theorem g80_67 : m_get 80 67 = some (.ireturn, 1) := by decide +kernel
theorem g80_68 : m_get 80 68 = some (.aload_n 0, 1) := by decide +kernel
theorem g80_69 : m_get 80 69 = some (.getfield 23, 3) := by decide +kernel
theorem g80_72 : m_get 80 72 = some (.getfield 232, 3) := by decide +kernel
theorem g80_75 : m_get 80 75 = some (.ireturn, 1) := by decide +kernel
theorem g80_76 : m_get 80 76 = some (.aload_n 0, 1) := by decide +kernel
theorem g80_77 : m_get 80 77 = some (.getfield 23, 3) := by decide +kernel
theorem g80_80 : m_get 80 80 = some (.getfield 235, 3) := by decide +kernel
theorem g80_83 : m_get 80 83 = some (.ireturn, 1) := by decide +kernel
theorem g80_84 : m_get 80 84 = some (.aload_n 0, 1) := by decide +kernel
theorem g80_85 : m_get 80 85 = some (.getfield 23, 3) := by decide +kernel
theorem g80_88 : m_get 80 88 = some (.getfield 238, 3) := by decide +kernel
theorem g80_91 : m_get 80 91 = some (.ireturn, 1) := by decide +kernel
theorem g80_92 : m_get 80 92 = some (.aload_n 0, 1) := by decide +kernel
theorem g80_93 : m_get 80 93 = some (.getfield 23, 3) := by decide +kernel
theorem g80_96 : m_get 80 96 = some (.getfield 241, 3) := by decide +kernel
theorem g80_99 : m_get 80 99 = some (.ireturn, 1) := by decide +kernel
theorem g80_100 : m_get 80 100 = some (.aload_n 0, 1) := by decide +kernel
theorem g80_101 : m_get 80 101 = some (.getfield 23, 3) := by decide +kernel
theorem g80_104 : m_get 80 104 = some (.getfield 244, 3) := by decide +kernel
theorem g80_107 : m_get 80 107 = some (.ireturn, 1) := by decide +kernel
theorem g80_108 : m_get 80 108 = some (.aload_n 0, 1) := by decide +kernel
theorem g80_109 : m_get 80 109 = some (.getfield 23, 3) := by decide +kernel
theorem g80_112 : m_get 80 112 = some (.getfield 247, 3) := by decide +kernel
theorem g80_115 : m_get 80 115 = some (.ireturn, 1) := by decide +kernel
theorem g80_116 : m_get 80 116 = some (.aload_n 0, 1) := by decide +kernel
theorem g80_117 : m_get 80 117 = some (.invokevirtual 138, 3) := by decide +kernel
theorem g80_120 : m_get 80 120 = some (.ireturn, 1) := by decide +kernel
theorem g80_121 : m_get 80 121 = some (.aload_n 0, 1) := by decide +kernel
theorem g80_122 : m_get 80 122 = some (.getfield 79, 3) := by decide +kernel
theorem g80_125 : m_get 80 125 = some (.ireturn, 1) := by decide +kernel
theorem g80_126 : m_get 80 126 = some (.aload_n 0, 1) := by decide +kernel
theorem g80_127 : m_get 80 127 = some (.getfield 93, 3) := by decide +kernel
theorem g80_130 : m_get 80 130 = some (.ireturn, 1) := by decide +kernel
theorem g80_131 : m_get 80 131 = some (.aload_n 0, 1) := by decide +kernel
theorem g80_132 : m_get 80 132 = some (.getfield 23, 3) := by decide +kernel
theorem g80_135 : m_get 80 135 = some (.invokevirtual 250, 3) := by decide +kernel
theorem g80_138 : m_get 80 138 = some (.ireturn, 1) := by decide +kernel
theorem g80_139 : m_get 80 139 = some (.iconst (-1), 1) := by decide +kernel
theorem g80_140 : m_get 80 140 = some (.ireturn, 1) := by decide +kernel
theorem f80_23 : m_fl (m_own 80) 23 = some (6, 3) := by decide +kernel
theorem f80_79 : m_fl (m_own 80) 79 = some (6, 1) := by decide +kernel
theorem f80_93 : m_fl (m_own 80) 93 = some (6, 9) := by decide +kernel
theorem f80_229 : m_fl (m_own 80) 229 = some (4, 0) := by decide +kernel
theorem f80_232 : m_fl (m_own 80) 232 = some (4, 1) := by decide +kernel
theorem f80_235 : m_fl (m_own 80) 235 = some (4, 2) := by decide +kernel
theorem f80_238 : m_fl (m_own 80) 238 = some (4, 3) := by decide +kernel
theorem f80_241 : m_fl (m_own 80) 241 = some (4, 4) := by decide +kernel
theorem f80_244 : m_fl (m_own 80) 244 = some (4, 5) := by decide +kernel
theorem f80_247 : m_fl (m_own 80) 247 = some (4, 6) := by decide +kernel
theorem k80_138 : m_ml (m_own 80) 138 = some (0, 87) := by decide +kernel
theorem k80_250 : m_ml (m_own 80) 250 = some (0, 44) := by decide +kernel
theorem g81_0 : m_get 81 0 = some (.iload_n 1, 1) := by decide +kernel
theorem g81_1 : m_get 81 1 = some (.ifCond .lt 18, 3) := by decide +kernel
theorem g81_4 : m_get 81 4 = some (.iload_n 1, 1) := by decide +kernel
theorem g81_5 : m_get 81 5 = some (.aload_n 0, 1) := by decide +kernel
theorem g81_6 : m_get 81 6 = some (.getfield 23, 3) := by decide +kernel
theorem g81_9 : m_get 81 9 = some (.getfield 229, 3) := by decide +kernel
theorem g81_12 : m_get 81 12 = some (.if_icmp .ge 7, 3) := by decide +kernel
theorem g81_15 : m_get 81 15 = some (.iconst 1, 1) := by decide +kernel
theorem g81_16 : m_get 81 16 = some (.goto 4, 3) := by decide +kernel
theorem g81_19 : m_get 81 19 = some (.iconst 0, 1) := by decide +kernel
theorem g81_20 : m_get 81 20 = some (.ireturn, 1) := by decide +kernel
theorem f81_23 : m_fl (m_own 81) 23 = some (6, 3) := by decide +kernel
theorem f81_229 : m_fl (m_own 81) 229 = some (4, 0) := by decide +kernel
theorem g82_0 : m_get 82 0 = some (.iload_n 1, 1) := by decide +kernel
theorem g82_1 : m_get 82 1 = some (.ifCond .lt 20, 3) := by decide +kernel
theorem g82_4 : m_get 82 4 = some (.iload_n 1, 1) := by decide +kernel
theorem g82_5 : m_get 82 5 = some (.aload_n 0, 1) := by decide +kernel
theorem g82_6 : m_get 82 6 = some (.getfield 23, 3) := by decide +kernel
theorem g82_9 : m_get 82 9 = some (.getfield 229, 3) := by decide +kernel
theorem g82_12 : m_get 82 12 = some (.iconst 4, 1) := by decide +kernel
theorem g82_13 : m_get 82 13 = some (.imul, 1) := by decide +kernel
theorem g82_14 : m_get 82 14 = some (.if_icmp .ge 7, 3) := by decide +kernel
theorem g82_17 : m_get 82 17 = some (.iconst 1, 1) := by decide +kernel
theorem g82_18 : m_get 82 18 = some (.goto 4, 3) := by decide +kernel
theorem g82_21 : m_get 82 21 = some (.iconst 0, 1) := by decide +kernel
theorem g82_22 : m_get 82 22 = some (.ireturn, 1) := by decide +kernel
theorem f82_23 : m_fl (m_own 82) 23 = some (6, 3) := by decide +kernel
theorem f82_229 : m_fl (m_own 82) 229 = some (4, 0) := by decide +kernel
theorem g83_0 : m_get 83 0 = some (.iload_n 1, 1) := by decide +kernel
theorem g83_1 : m_get 83 1 = some (.ifCond .lt 18, 3) := by decide +kernel
theorem g83_4 : m_get 83 4 = some (.iload_n 1, 1) := by decide +kernel
theorem g83_5 : m_get 83 5 = some (.aload_n 0, 1) := by decide +kernel
theorem g83_6 : m_get 83 6 = some (.getfield 23, 3) := by decide +kernel
theorem g83_9 : m_get 83 9 = some (.invokevirtual 142, 3) := by decide +kernel
theorem g83_12 : m_get 83 12 = some (.if_icmp .ge 7, 3) := by decide +kernel
theorem g83_15 : m_get 83 15 = some (.iconst 1, 1) := by decide +kernel
theorem g83_16 : m_get 83 16 = some (.goto 4, 3) := by decide +kernel
theorem g83_19 : m_get 83 19 = some (.iconst 0, 1) := by decide +kernel
theorem g83_20 : m_get 83 20 = some (.ireturn, 1) := by decide +kernel
theorem f83_23 : m_fl (m_own 83) 23 = some (6, 3) := by decide +kernel
theorem k83_142 : m_ml (m_own 83) 142 = some (0, 36) := by decide +kernel
theorem g84_0 : m_get 84 0 = some (.iload_n 0, 1) := by decide +kernel
theorem g84_1 : m_get 84 1 = some (.ifCond .lt 12, 3) := by decide +kernel
theorem g84_4 : m_get 84 4 = some (.iload_n 0, 1) := by decide +kernel
theorem g84_5 : m_get 84 5 = some (.iconst 3, 1) := by decide +kernel
theorem g84_6 : m_get 84 6 = some (.if_icmp .ge 7, 3) := by decide +kernel
theorem g84_9 : m_get 84 9 = some (.iconst 1, 1) := by decide +kernel
theorem g84_10 : m_get 84 10 = some (.goto 4, 3) := by decide +kernel
theorem g84_13 : m_get 84 13 = some (.iconst 0, 1) := by decide +kernel
theorem g84_14 : m_get 84 14 = some (.ireturn, 1) := by decide +kernel
theorem g85_0 : m_get 85 0 = some (.iload_n 0, 1) := by decide +kernel
theorem g85_1 : m_get 85 1 = some (.iconst 1, 1) := by decide +kernel
theorem g85_2 : m_get 85 2 = some (.if_icmp .lt 24, 3) := by decide +kernel
theorem g85_5 : m_get 85 5 = some (.iload_n 0, 1) := by decide +kernel
theorem g85_6 : m_get 85 6 = some (.bipush 24, 2) := by decide +kernel
theorem g85_8 : m_get 85 8 = some (.if_icmp .gt 18, 3) := by decide +kernel
theorem g85_11 : m_get 85 11 = some (.iload_n 1, 1) := by decide +kernel
theorem g85_12 : m_get 85 12 = some (.iconst 1, 1) := by decide +kernel
theorem g85_13 : m_get 85 13 = some (.if_icmp .lt 13, 3) := by decide +kernel
theorem g85_16 : m_get 85 16 = some (.iload_n 1, 1) := by decide +kernel
theorem g85_17 : m_get 85 17 = some (.bipush 24, 2) := by decide +kernel
theorem g85_19 : m_get 85 19 = some (.if_icmp .gt 7, 3) := by decide +kernel
theorem g85_22 : m_get 85 22 = some (.iconst 1, 1) := by decide +kernel
theorem g85_23 : m_get 85 23 = some (.goto 4, 3) := by decide +kernel
theorem g85_26 : m_get 85 26 = some (.iconst 0, 1) := by decide +kernel
theorem g85_27 : m_get 85 27 = some (.ireturn, 1) := by decide +kernel
theorem g86_0 : m_get 86 0 = some (.iload_n 0, 1) := by decide +kernel
theorem g86_1 : m_get 86 1 = some (.ifCond .lt 12, 3) := by decide +kernel
theorem g86_4 : m_get 86 4 = some (.iload_n 0, 1) := by decide +kernel
theorem g86_5 : m_get 86 5 = some (.iconst 2, 1) := by decide +kernel
theorem g86_6 : m_get 86 6 = some (.if_icmp .ge 7, 3) := by decide +kernel
theorem g86_9 : m_get 86 9 = some (.iconst 1, 1) := by decide +kernel
theorem g86_10 : m_get 86 10 = some (.goto 4, 3) := by decide +kernel
theorem g86_13 : m_get 86 13 = some (.iconst 0, 1) := by decide +kernel
theorem g86_14 : m_get 86 14 = some (.ireturn, 1) := by decide +kernel
theorem g87_0 : m_get 87 0 = some (.iconst 0, 1) := by decide +kernel
theorem g87_1 : m_get 87 1 = some (.istore_n 1, 1) := by decide +kernel
theorem g87_2 : m_get 87 2 = some (.iconst 0, 1) := by decide +kernel
theorem g87_3 : m_get 87 3 = some (.istore_n 2, 1) := by decide +kernel
theorem g87_4 : m_get 87 4 = some (.iload_n 2, 1) := by decide +kernel
theorem g87_5 : m_get 87 5 = some (.aload_n 0, 1) := by decide +kernel
theorem g87_6 : m_get 87 6 = some (.getfield 23, 3) := by decide +kernel
theorem g87_9 : m_get 87 9 = some (.invokevirtual 142, 3) := by decide +kernel
theorem g87_12 : m_get 87 12 = some (.if_icmp .ge 23, 3) := by decide +kernel
theorem g87_15 : m_get 87 15 = some (.aload_n 0, 1) := by decide +kernel
theorem g87_16 : m_get 87 16 = some (.getfield 33, 3) := by decide +kernel
theorem g87_19 : m_get 87 19 = some (.iload_n 2, 1) := by decide +kernel
theorem g87_20 : m_get 87 20 = some (.invokevirtual 126, 3) := by decide +kernel
theorem g87_23 : m_get 87 23 = some (.ifCond .eq 6, 3) := by decide +kernel
theorem g87_26 : m_get 87 26 = some (.iinc 1 1, 3) := by decide +kernel
theorem g87_29 : m_get 87 29 = some (.iinc 2 1, 3) := by decide +kernel
theorem g87_32 : m_get 87 32 = some (.goto (-28), 3) := by decide +kernel
theorem g87_35 : m_get 87 35 = some (.iload_n 1, 1) := by decide +kernel
theorem g87_36 : m_get 87 36 = some (.ireturn, 1) := by decide +kernel
theorem f87_23 : m_fl (m_own 87) 23 = some (6, 3) := by decide +kernel
theorem f87_33 : m_fl (m_own 87) 33 = some (6, 5) := by decide +kernel
theorem k87_126 : m_ml (m_own 87) 126 = some (0, 17) := by decide +kernel
theorem k87_142 : m_ml (m_own 87) 142 = some (0, 36) := by decide +kernel
theorem g88_0 : m_get 88 0 = some (.iconst 0, 1) := by decide +kernel
theorem g88_1 : m_get 88 1 = some (.istore_n 1, 1) := by decide +kernel
theorem g88_2 : m_get 88 2 = some (.iload_n 1, 1) := by decide +kernel
theorem g88_3 : m_get 88 3 = some (.iconst 2, 1) := by decide +kernel
theorem g88_4 : m_get 88 4 = some (.if_icmp .ge 16, 3) := by decide +kernel
theorem g88_7 : m_get 88 7 = some (.aload_n 0, 1) := by decide +kernel
theorem g88_8 : m_get 88 8 = some (.getfield 47, 3) := by decide +kernel
theorem g88_11 : m_get 88 11 = some (.iload_n 1, 1) := by decide +kernel
theorem g88_12 : m_get 88 12 = some (.iconst 0, 1) := by decide +kernel
theorem g88_13 : m_get 88 13 = some (.bastore, 1) := by decide +kernel
theorem g88_14 : m_get 88 14 = some (.iinc 1 1, 3) := by decide +kernel
theorem g88_17 : m_get 88 17 = some (.goto (-15), 3) := by decide +kernel
theorem g88_20 : m_get 88 20 = some (.return_, 1) := by decide +kernel
theorem f88_47 : m_fl (m_own 88) 47 = some (6, 11) := by decide +kernel
theorem g89_0 : m_get 89 0 = some (.aload_n 0, 1) := by decide +kernel
theorem g89_1 : m_get 89 1 = some (.getfield 40, 3) := by decide +kernel
theorem g89_4 : m_get 89 4 = some (.aload_n 0, 1) := by decide +kernel
theorem g89_5 : m_get 89 5 = some (.getfield 148, 3) := by decide +kernel
theorem g89_8 : m_get 89 8 = some (.aaload, 1) := by decide +kernel
theorem g89_9 : m_get 89 9 = some (.aload_n 0, 1) := by decide +kernel
theorem g89_10 : m_get 89 10 = some (.getfield 33, 3) := by decide +kernel
theorem g89_13 : m_get 89 13 = some (.invokevirtual 151, 3) := by decide +kernel
theorem g89_16 : m_get 89 16 = some (.aload_n 0, 1) := by decide +kernel
theorem g89_17 : m_get 89 17 = some (.aload_n 0, 1) := by decide +kernel
theorem g89_18 : m_get 89 18 = some (.getfield 148, 3) := by decide +kernel
theorem g89_21 : m_get 89 21 = some (.iconst 1, 1) := by decide +kernel
theorem g89_22 : m_get 89 22 = some (.iadd, 1) := by decide +kernel
theorem g89_23 : m_get 89 23 = some (.bipush 10, 2) := by decide +kernel
theorem g89_25 : m_get 89 25 = some (.irem, 1) := by decide +kernel
theorem g89_26 : m_get 89 26 = some (.putfield 148, 3) := by decide +kernel
theorem g89_29 : m_get 89 29 = some (.aload_n 0, 1) := by decide +kernel
theorem g89_30 : m_get 89 30 = some (.aload_n 0, 1) := by decide +kernel
theorem g89_31 : m_get 89 31 = some (.getfield 93, 3) := by decide +kernel
theorem g89_34 : m_get 89 34 = some (.iconst 1, 1) := by decide +kernel
theorem g89_35 : m_get 89 35 = some (.iadd, 1) := by decide +kernel
theorem g89_36 : m_get 89 36 = some (.bipush 10, 2) := by decide +kernel
theorem g89_38 : m_get 89 38 = some (.invokestatic 253, 3) := by decide +kernel
theorem g89_41 : m_get 89 41 = some (.putfield 93, 3) := by decide +kernel
theorem g89_44 : m_get 89 44 = some (.return_, 1) := by decide +kernel
theorem f89_33 : m_fl (m_own 89) 33 = some (6, 5) := by decide +kernel
theorem f89_40 : m_fl (m_own 89) 40 = some (6, 7) := by decide +kernel
theorem f89_93 : m_fl (m_own 89) 93 = some (6, 9) := by decide +kernel
theorem f89_148 : m_fl (m_own 89) 148 = some (6, 8) := by decide +kernel
theorem k89_151 : m_ml (m_own 89) 151 = some (0, 15) := by decide +kernel
theorem k89_253 : m_ml (m_own 89) 253 = some (8, 0) := by decide +kernel
theorem g90_0 : m_get 90 0 = some (.iload_n 2, 1) := by decide +kernel
theorem g90_1 : m_get 90 1 = some (.iconst 4, 1) := by decide +kernel
theorem g90_2 : m_get 90 2 = some (.idiv, 1) := by decide +kernel
theorem g90_3 : m_get 90 3 = some (.istore_n 3, 1) := by decide +kernel
theorem g90_4 : m_get 90 4 = some (.aload_n 0, 1) := by decide +kernel
theorem g90_5 : m_get 90 5 = some (.getfield 33, 3) := by decide +kernel
theorem g90_8 : m_get 90 8 = some (.iload_n 3, 1) := by decide +kernel
theorem g90_9 : m_get 90 9 = some (.invokevirtual 109, 3) := by decide +kernel
theorem g90_12 : m_get 90 12 = some (.ifCond .gt 5, 3) := by decide +kernel
theorem g90_15 : m_get 90 15 = some (.iconst 1, 1) := by decide +kernel
theorem g90_16 : m_get 90 16 = some (.ireturn, 1) := by decide +kernel
theorem g90_17 : m_get 90 17 = some (.aload_n 0, 1) := by decide +kernel
theorem g90_18 : m_get 90 18 = some (.iload_n 1, 1) := by decide +kernel
theorem g90_19 : m_get 90 19 = some (.iload_n 2, 1) := by decide +kernel
theorem g90_20 : m_get 90 20 = some (.invokevirtual 258, 3) := by decide +kernel
theorem g90_23 : m_get 90 23 = some (.ifCond .ne 5, 3) := by decide +kernel
theorem g90_26 : m_get 90 26 = some (.iconst 2, 1) := by decide +kernel
theorem g90_27 : m_get 90 27 = some (.ireturn, 1) := by decide +kernel
theorem g90_28 : m_get 90 28 = some (.aload_n 0, 1) := by decide +kernel
theorem g90_29 : m_get 90 29 = some (.iload_n 1, 1) := by decide +kernel
theorem g90_30 : m_get 90 30 = some (.iload_n 2, 1) := by decide +kernel
theorem g90_31 : m_get 90 31 = some (.invokevirtual 261, 3) := by decide +kernel
theorem g90_34 : m_get 90 34 = some (.ifCond .ne 5, 3) := by decide +kernel
theorem g90_37 : m_get 90 37 = some (.iconst 3, 1) := by decide +kernel
theorem g90_38 : m_get 90 38 = some (.ireturn, 1) := by decide +kernel
theorem g90_39 : m_get 90 39 = some (.aload_n 0, 1) := by decide +kernel
theorem g90_40 : m_get 90 40 = some (.getfield 33, 3) := by decide +kernel
theorem g90_43 : m_get 90 43 = some (.aload_n 0, 1) := by decide +kernel
theorem g90_44 : m_get 90 44 = some (.getfield 23, 3) := by decide +kernel
theorem g90_47 : m_get 90 47 = some (.aload_n 0, 1) := by decide +kernel
theorem g90_48 : m_get 90 48 = some (.getfield 23, 3) := by decide +kernel
theorem g90_51 : m_get 90 51 = some (.getfield 103, 3) := by decide +kernel
theorem g90_54 : m_get 90 54 = some (.iload_n 3, 1) := by decide +kernel
theorem g90_55 : m_get 90 55 = some (.iaload, 1) := by decide +kernel
theorem g90_56 : m_get 90 56 = some (.invokevirtual 178, 3) := by decide +kernel
theorem g90_59 : m_get 90 59 = some (.aload_n 0, 1) := by decide +kernel
theorem g90_60 : m_get 90 60 = some (.getfield 23, 3) := by decide +kernel
theorem g90_63 : m_get 90 63 = some (.getfield 241, 3) := by decide +kernel
theorem g90_66 : m_get 90 66 = some (.if_icmp .lt 7, 3) := by decide +kernel
theorem g90_69 : m_get 90 69 = some (.iconst 4, 1) := by decide +kernel
theorem g90_70 : m_get 90 70 = some (.goto 4, 3) := by decide +kernel
theorem g90_73 : m_get 90 73 = some (.iconst 0, 1) := by decide +kernel
theorem g90_74 : m_get 90 74 = some (.ireturn, 1) := by decide +kernel
theorem f90_23 : m_fl (m_own 90) 23 = some (6, 3) := by decide +kernel
theorem f90_33 : m_fl (m_own 90) 33 = some (6, 5) := by decide +kernel
theorem f90_103 : m_fl (m_own 90) 103 = some (4, 8) := by decide +kernel
theorem f90_241 : m_fl (m_own 90) 241 = some (4, 4) := by decide +kernel
theorem k90_109 : m_ml (m_own 90) 109 = some (0, 18) := by decide +kernel
theorem k90_178 : m_ml (m_own 90) 178 = some (0, 19) := by decide +kernel
theorem k90_258 : m_ml (m_own 90) 258 = some (0, 91) := by decide +kernel
theorem k90_261 : m_ml (m_own 90) 261 = some (0, 92) := by decide +kernel
theorem g91_0 : m_get 91 0 = some (.iconst 0, 1) := by decide +kernel
theorem g91_1 : m_get 91 1 = some (.istore_n 3, 1) := by decide +kernel
theorem g91_2 : m_get 91 2 = some (.iload_n 3, 1) := by decide +kernel
theorem g91_3 : m_get 91 3 = some (.iconst 4, 1) := by decide +kernel
theorem g91_4 : m_get 91 4 = some (.if_icmp .ge 79, 3) := by decide +kernel
theorem g91_7 : m_get 91 7 = some (.aload_n 0, 1) := by decide +kernel
theorem g91_8 : m_get 91 8 = some (.getfield 23, 3) := by decide +kernel
theorem g91_11 : m_get 91 11 = some (.iload_n 1, 1) := by decide +kernel
theorem g91_12 : m_get 91 12 = some (.iload_n 3, 1) := by decide +kernel
theorem g91_13 : m_get 91 13 = some (.invokevirtual 264, 3) := by decide +kernel
theorem g91_16 : m_get 91 16 = some (.istore 4, 2) := by decide +kernel
theorem g91_18 : m_get 91 18 = some (.iload 4, 2) := by decide +kernel
theorem g91_20 : m_get 91 20 = some (.ifCond .lt 57, 3) := by decide +kernel
theorem g91_23 : m_get 91 23 = some (.iload 4, 2) := by decide +kernel
theorem g91_25 : m_get 91 25 = some (.bipush 6, 2) := by decide +kernel
theorem g91_27 : m_get 91 27 = some (.if_icmp .ge 50, 3) := by decide +kernel
theorem g91_30 : m_get 91 30 = some (.aload_n 0, 1) := by decide +kernel
theorem g91_31 : m_get 91 31 = some (.getfield 33, 3) := by decide +kernel
theorem g91_34 : m_get 91 34 = some (.iload 4, 2) := by decide +kernel
theorem g91_36 : m_get 91 36 = some (.invokevirtual 126, 3) := by decide +kernel
theorem g91_39 : m_get 91 39 = some (.ifCond .ne 38, 3) := by decide +kernel
theorem g91_42 : m_get 91 42 = some (.aload_n 0, 1) := by decide +kernel
theorem g91_43 : m_get 91 43 = some (.getfield 23, 3) := by decide +kernel
theorem g91_46 : m_get 91 46 = some (.aload_n 0, 1) := by decide +kernel
theorem g91_47 : m_get 91 47 = some (.getfield 33, 3) := by decide +kernel
theorem g91_50 : m_get 91 50 = some (.getfield 135, 3) := by decide +kernel
theorem g91_53 : m_get 91 53 = some (.iload 4, 2) := by decide +kernel
theorem g91_55 : m_get 91 55 = some (.iaload, 1) := by decide +kernel
theorem g91_56 : m_get 91 56 = some (.iload_n 3, 1) := by decide +kernel
theorem g91_57 : m_get 91 57 = some (.invokestatic 267, 3) := by decide +kernel
theorem g91_60 : m_get 91 60 = some (.invokevirtual 113, 3) := by decide +kernel
theorem g91_63 : m_get 91 63 = some (.aload_n 0, 1) := by decide +kernel
theorem g91_64 : m_get 91 64 = some (.getfield 23, 3) := by decide +kernel
theorem g91_67 : m_get 91 67 = some (.iload_n 2, 1) := by decide +kernel
theorem g91_68 : m_get 91 68 = some (.iload_n 3, 1) := by decide +kernel
theorem g91_69 : m_get 91 69 = some (.invokevirtual 113, 3) := by decide +kernel
theorem g91_72 : m_get 91 72 = some (.if_icmp .eq 5, 3) := by decide +kernel
theorem g91_75 : m_get 91 75 = some (.iconst 0, 1) := by decide +kernel
theorem g91_76 : m_get 91 76 = some (.ireturn, 1) := by decide +kernel
theorem g91_77 : m_get 91 77 = some (.iinc 3 1, 3) := by decide +kernel
theorem g91_80 : m_get 91 80 = some (.goto (-78), 3) := by decide +kernel
theorem g91_83 : m_get 91 83 = some (.iconst 1, 1) := by decide +kernel
theorem g91_84 : m_get 91 84 = some (.ireturn, 1) := by decide +kernel
theorem f91_23 : m_fl (m_own 91) 23 = some (6, 3) := by decide +kernel
theorem f91_33 : m_fl (m_own 91) 33 = some (6, 5) := by decide +kernel
theorem f91_135 : m_fl (m_own 91) 135 = some (2, 0) := by decide +kernel
theorem k91_113 : m_ml (m_own 91) 113 = some (0, 37) := by decide +kernel
theorem k91_126 : m_ml (m_own 91) 126 = some (0, 17) := by decide +kernel
theorem k91_264 : m_ml (m_own 91) 264 = some (0, 42) := by decide +kernel
theorem k91_267 : m_ml (m_own 91) 267 = some (1, 96) := by decide +kernel
theorem g92_0 : m_get 92 0 = some (.aload_n 0, 1) := by decide +kernel
theorem g92_1 : m_get 92 1 = some (.getfield 23, 3) := by decide +kernel
theorem g92_4 : m_get 92 4 = some (.getfield 238, 3) := by decide +kernel
theorem g92_7 : m_get 92 7 = some (.bipush (-9), 2) := by decide +kernel
theorem g92_9 : m_get 92 9 = some (.if_icmp .ne 5, 3) := by decide +kernel
theorem g92_12 : m_get 92 12 = some (.iconst 1, 1) := by decide +kernel
theorem g92_13 : m_get 92 13 = some (.ireturn, 1) := by decide +kernel
theorem g92_14 : m_get 92 14 = some (.iconst 0, 1) := by decide +kernel
theorem g92_15 : m_get 92 15 = some (.istore_n 3, 1) := by decide +kernel
theorem g92_16 : m_get 92 16 = some (.iload_n 3, 1) := by decide +kernel
theorem g92_17 : m_get 92 17 = some (.iconst 4, 1) := by decide +kernel
theorem g92_18 : m_get 92 18 = some (.if_icmp .ge 42, 3) := by decide +kernel
theorem g92_21 : m_get 92 21 = some (.aload_n 0, 1) := by decide +kernel
theorem g92_22 : m_get 92 22 = some (.getfield 23, 3) := by decide +kernel
theorem g92_25 : m_get 92 25 = some (.iload_n 1, 1) := by decide +kernel
theorem g92_26 : m_get 92 26 = some (.iload_n 3, 1) := by decide +kernel
theorem g92_27 : m_get 92 27 = some (.invokevirtual 264, 3) := by decide +kernel
theorem g92_30 : m_get 92 30 = some (.ifCond .ge 24, 3) := by decide +kernel
theorem g92_33 : m_get 92 33 = some (.aload_n 0, 1) := by decide +kernel
theorem g92_34 : m_get 92 34 = some (.getfield 23, 3) := by decide +kernel
theorem g92_37 : m_get 92 37 = some (.iload_n 2, 1) := by decide +kernel
theorem g92_38 : m_get 92 38 = some (.iload_n 3, 1) := by decide +kernel
theorem g92_39 : m_get 92 39 = some (.invokevirtual 113, 3) := by decide +kernel
theorem g92_42 : m_get 92 42 = some (.aload_n 0, 1) := by decide +kernel
theorem g92_43 : m_get 92 43 = some (.getfield 23, 3) := by decide +kernel
theorem g92_46 : m_get 92 46 = some (.getfield 238, 3) := by decide +kernel
theorem g92_49 : m_get 92 49 = some (.if_icmp .eq 5, 3) := by decide +kernel
theorem g92_52 : m_get 92 52 = some (.iconst 0, 1) := by decide +kernel
theorem g92_53 : m_get 92 53 = some (.ireturn, 1) := by decide +kernel
theorem g92_54 : m_get 92 54 = some (.iinc 3 1, 3) := by decide +kernel
theorem g92_57 : m_get 92 57 = some (.goto (-41), 3) := by decide +kernel
theorem g92_60 : m_get 92 60 = some (.iconst 1, 1) := by decide +kernel
theorem g92_61 : m_get 92 61 = some (.ireturn, 1) := by decide +kernel
theorem f92_23 : m_fl (m_own 92) 23 = some (6, 3) := by decide +kernel
theorem f92_238 : m_fl (m_own 92) 238 = some (4, 3) := by decide +kernel
theorem k92_113 : m_ml (m_own 92) 113 = some (0, 37) := by decide +kernel
theorem k92_264 : m_ml (m_own 92) 264 = some (0, 42) := by decide +kernel
theorem g93_0 : m_get 93 0 = some (.aload_n 0, 1) := by decide +kernel
theorem g93_1 : m_get 93 1 = some (.getfield 54, 3) := by decide +kernel
theorem g93_4 : m_get 93 4 = some (.aload_n 0, 1) := by decide +kernel
theorem g93_5 : m_get 93 5 = some (.getfield 23, 3) := by decide +kernel
theorem g93_8 : m_get 93 8 = some (.aload_n 1, 1) := by decide +kernel
theorem g93_9 : m_get 93 9 = some (.invokevirtual 155, 3) := by decide +kernel
theorem g93_12 : m_get 93 12 = some (.aload_n 0, 1) := by decide +kernel
theorem g93_13 : m_get 93 13 = some (.getfield 54, 3) := by decide +kernel
theorem g93_16 : m_get 93 16 = some (.aload_n 0, 1) := by decide +kernel
theorem g93_17 : m_get 93 17 = some (.getfield 23, 3) := by decide +kernel
theorem g93_20 : m_get 93 20 = some (.aload_n 1, 1) := by decide +kernel
theorem g93_21 : m_get 93 21 = some (.invokevirtual 158, 3) := by decide +kernel
theorem g93_24 : m_get 93 24 = some (.aload_n 0, 1) := by decide +kernel
theorem g93_25 : m_get 93 25 = some (.getfield 61, 3) := by decide +kernel
theorem g93_28 : m_get 93 28 = some (.aload_n 0, 1) := by decide +kernel
theorem g93_29 : m_get 93 29 = some (.getfield 23, 3) := by decide +kernel
theorem g93_32 : m_get 93 32 = some (.aload_n 1, 1) := by decide +kernel
theorem g93_33 : m_get 93 33 = some (.aload_n 0, 1) := by decide +kernel
theorem g93_34 : m_get 93 34 = some (.getfield 54, 3) := by decide +kernel
theorem g93_37 : m_get 93 37 = some (.getfield 161, 3) := by decide +kernel
theorem g93_40 : m_get 93 40 = some (.iload_n 2, 1) := by decide +kernel
theorem g93_41 : m_get 93 41 = some (.invokevirtual 270, 3) := by decide +kernel
theorem g93_44 : m_get 93 44 = some (.ireturn, 1) := by decide +kernel
theorem f93_23 : m_fl (m_own 93) 23 = some (6, 3) := by decide +kernel
theorem f93_54 : m_fl (m_own 93) 54 = some (6, 12) := by decide +kernel
theorem f93_61 : m_fl (m_own 93) 61 = some (6, 13) := by decide +kernel
theorem f93_161 : m_fl (m_own 93) 161 = some (5, 0) := by decide +kernel
theorem k93_155 : m_ml (m_own 93) 155 = some (0, 48) := by decide +kernel
theorem k93_158 : m_ml (m_own 93) 158 = some (0, 49) := by decide +kernel
theorem k93_270 : m_ml (m_own 93) 270 = some (0, 8) := by decide +kernel
theorem g94_0 : m_get 94 0 = some (.aload_n 0, 1) := by decide +kernel
theorem g94_1 : m_get 94 1 = some (.getfield 54, 3) := by decide +kernel
theorem g94_4 : m_get 94 4 = some (.aload_n 0, 1) := by decide +kernel
theorem g94_5 : m_get 94 5 = some (.getfield 23, 3) := by decide +kernel
theorem g94_8 : m_get 94 8 = some (.aload_n 0, 1) := by decide +kernel
theorem g94_9 : m_get 94 9 = some (.getfield 33, 3) := by decide +kernel
theorem g94_12 : m_get 94 12 = some (.invokevirtual 155, 3) := by decide +kernel
theorem g94_15 : m_get 94 15 = some (.aload_n 0, 1) := by decide +kernel
theorem g94_16 : m_get 94 16 = some (.getfield 54, 3) := by decide +kernel
theorem g94_19 : m_get 94 19 = some (.getfield 161, 3) := by decide +kernel
theorem g94_22 : m_get 94 22 = some (.iload_n 1, 1) := by decide +kernel
theorem g94_23 : m_get 94 23 = some (.dup2, 1) := by decide +kernel
theorem g94_24 : m_get 94 24 = some (.iaload, 1) := by decide +kernel
theorem g94_25 : m_get 94 25 = some (.iconst 1, 1) := by decide +kernel
theorem g94_26 : m_get 94 26 = some (.aload_n 0, 1) := by decide +kernel
theorem g94_27 : m_get 94 27 = some (.getfield 72, 3) := by decide +kernel
theorem g94_30 : m_get 94 30 = some (.iload_n 1, 1) := by decide +kernel
theorem g94_31 : m_get 94 31 = some (.iaload, 1) := by decide +kernel
theorem g94_32 : m_get 94 32 = some (.ishl, 1) := by decide +kernel
theorem g94_33 : m_get 94 33 = some (.iconst (-1), 1) := by decide +kernel
theorem g94_34 : m_get 94 34 = some (.ixor, 1) := by decide +kernel
theorem g94_35 : m_get 94 35 = some (.iand, 1) := by decide +kernel
theorem g94_36 : m_get 94 36 = some (.iastore, 1) := by decide +kernel
theorem g94_37 : m_get 94 37 = some (.aload_n 0, 1) := by decide +kernel
theorem g94_38 : m_get 94 38 = some (.getfield 54, 3) := by decide +kernel
theorem g94_41 : m_get 94 41 = some (.aload_n 0, 1) := by decide +kernel
theorem g94_42 : m_get 94 42 = some (.getfield 23, 3) := by decide +kernel
theorem g94_45 : m_get 94 45 = some (.aload_n 0, 1) := by decide +kernel
theorem g94_46 : m_get 94 46 = some (.getfield 33, 3) := by decide +kernel
theorem g94_49 : m_get 94 49 = some (.invokevirtual 158, 3) := by decide +kernel
theorem g94_52 : m_get 94 52 = some (.aload_n 0, 1) := by decide +kernel
theorem g94_53 : m_get 94 53 = some (.getfield 61, 3) := by decide +kernel
theorem g94_56 : m_get 94 56 = some (.aload_n 0, 1) := by decide +kernel
theorem g94_57 : m_get 94 57 = some (.getfield 23, 3) := by decide +kernel
theorem g94_60 : m_get 94 60 = some (.aload_n 0, 1) := by decide +kernel
theorem g94_61 : m_get 94 61 = some (.getfield 33, 3) := by decide +kernel
theorem g94_64 : m_get 94 64 = some (.aload_n 0, 1) := by decide +kernel
theorem g94_65 : m_get 94 65 = some (.getfield 54, 3) := by decide +kernel
theorem g94_68 : m_get 94 68 = some (.getfield 161, 3) := by decide +kernel
theorem g94_71 : m_get 94 71 = some (.iconst 1, 1) := by decide +kernel
theorem g94_72 : m_get 94 72 = some (.invokevirtual 270, 3) := by decide +kernel
theorem g94_75 : m_get 94 75 = some (.iconst 1, 1) := by decide +kernel
theorem g94_76 : m_get 94 76 = some (.if_icmp .ge 5, 3) := by decide +kernel
theorem g94_79 : m_get 94 79 = some (.iload_n 2, 1) := by decide +kernel
theorem g94_80 : m_get 94 80 = some (.ireturn, 1) := by decide +kernel
theorem g94_81 : m_get 94 81 = some (.iload_n 2, 1) := by decide +kernel
theorem g94_82 : m_get 94 82 = some (.istore_n 3, 1) := by decide +kernel
theorem g94_83 : m_get 94 83 = some (.iconst 0, 1) := by decide +kernel
theorem g94_84 : m_get 94 84 = some (.istore 4, 2) := by decide +kernel
theorem g94_86 : m_get 94 86 = some (.iload 4, 2) := by decide +kernel
theorem g94_88 : m_get 94 88 = some (.bipush 6, 2) := by decide +kernel
theorem g94_90 : m_get 94 90 = some (.if_icmp .ge 38, 3) := by decide +kernel
theorem g94_93 : m_get 94 93 = some (.aload_n 0, 1) := by decide +kernel
theorem g94_94 : m_get 94 94 = some (.getfield 61, 3) := by decide +kernel
theorem g94_97 : m_get 94 97 = some (.getfield 186, 3) := by decide +kernel
theorem g94_100 : m_get 94 100 = some (.iload 4, 2) := by decide +kernel
theorem g94_102 : m_get 94 102 = some (.iaload, 1) := by decide +kernel
theorem g94_103 : m_get 94 103 = some (.aload_n 0, 1) := by decide +kernel
theorem g94_104 : m_get 94 104 = some (.getfield 72, 3) := by decide +kernel
theorem g94_107 : m_get 94 107 = some (.iload 4, 2) := by decide +kernel
theorem g94_109 : m_get 94 109 = some (.iaload, 1) := by decide +kernel
theorem g94_110 : m_get 94 110 = some (.if_icmp .eq 12, 3) := by decide +kernel
theorem g94_113 : m_get 94 113 = some (.iload_n 3, 1) := by decide +kernel
theorem g94_114 : m_get 94 114 = some (.iconst 1, 1) := by decide +kernel
theorem g94_115 : m_get 94 115 = some (.iload 4, 2) := by decide +kernel
theorem g94_117 : m_get 94 117 = some (.ishl, 1) := by decide +kernel
theorem g94_118 : m_get 94 118 = some (.iconst (-1), 1) := by decide +kernel
theorem g94_119 : m_get 94 119 = some (.ixor, 1) := by decide +kernel
theorem g94_120 : m_get 94 120 = some (.iand, 1) := by decide +kernel
theorem g94_121 : m_get 94 121 = some (.istore_n 3, 1) := by decide +kernel
theorem g94_122 : m_get 94 122 = some (.iinc 4 1, 3) := by decide +kernel
theorem g94_125 : m_get 94 125 = some (.goto (-39), 3) := by decide +kernel
theorem g94_128 : m_get 94 128 = some (.iload_n 3, 1) := by decide +kernel
theorem g94_129 : m_get 94 129 = some (.ireturn, 1) := by decide +kernel
theorem f94_23 : m_fl (m_own 94) 23 = some (6, 3) := by decide +kernel
theorem f94_33 : m_fl (m_own 94) 33 = some (6, 5) := by decide +kernel
theorem f94_54 : m_fl (m_own 94) 54 = some (6, 12) := by decide +kernel
theorem f94_61 : m_fl (m_own 94) 61 = some (6, 13) := by decide +kernel
theorem f94_72 : m_fl (m_own 94) 72 = some (6, 15) := by decide +kernel
theorem f94_161 : m_fl (m_own 94) 161 = some (5, 0) := by decide +kernel
theorem f94_186 : m_fl (m_own 94) 186 = some (1, 0) := by decide +kernel
theorem k94_155 : m_ml (m_own 94) 155 = some (0, 48) := by decide +kernel
theorem k94_158 : m_ml (m_own 94) 158 = some (0, 49) := by decide +kernel
theorem k94_270 : m_ml (m_own 94) 270 = some (0, 8) := by decide +kernel
theorem g95_0 : m_get 95 0 = some (.iconst 0, 1) := by decide +kernel
theorem g95_1 : m_get 95 1 = some (.istore_n 2, 1) := by decide +kernel
theorem g95_2 : m_get 95 2 = some (.iconst 0, 1) := by decide +kernel
theorem g95_3 : m_get 95 3 = some (.istore_n 3, 1) := by decide +kernel
theorem g95_4 : m_get 95 4 = some (.iload_n 3, 1) := by decide +kernel
theorem g95_5 : m_get 95 5 = some (.bipush 24, 2) := by decide +kernel
theorem g95_7 : m_get 95 7 = some (.if_icmp .ge 28, 3) := by decide +kernel
theorem g95_10 : m_get 95 10 = some (.iload_n 0, 1) := by decide +kernel
theorem g95_11 : m_get 95 11 = some (.iload_n 3, 1) := by decide +kernel
theorem g95_12 : m_get 95 12 = some (.ishr, 1) := by decide +kernel
theorem g95_13 : m_get 95 13 = some (.iconst 1, 1) := by decide +kernel
theorem g95_14 : m_get 95 14 = some (.iand, 1) := by decide +kernel
theorem g95_15 : m_get 95 15 = some (.iconst 1, 1) := by decide +kernel
theorem g95_16 : m_get 95 16 = some (.if_icmp .ne 13, 3) := by decide +kernel
theorem g95_19 : m_get 95 19 = some (.iload_n 2, 1) := by decide +kernel
theorem g95_20 : m_get 95 20 = some (.iload_n 1, 1) := by decide +kernel
theorem g95_21 : m_get 95 21 = some (.if_icmp .ne 5, 3) := by decide +kernel
theorem g95_24 : m_get 95 24 = some (.iload_n 3, 1) := by decide +kernel
theorem g95_25 : m_get 95 25 = some (.ireturn, 1) := by decide +kernel
theorem g95_26 : m_get 95 26 = some (.iinc 2 1, 3) := by decide +kernel
theorem g95_29 : m_get 95 29 = some (.iinc 3 1, 3) := by decide +kernel
theorem g95_32 : m_get 95 32 = some (.goto (-28), 3) := by decide +kernel
theorem g95_35 : m_get 95 35 = some (.bipush (-9), 2) := by decide +kernel
theorem g95_37 : m_get 95 37 = some (.ireturn, 1) := by decide +kernel
theorem g96_0 : m_get 96 0 = some (.iload_n 0, 1) := by decide +kernel
theorem g96_1 : m_get 96 1 = some (.iconst 2, 1) := by decide +kernel
theorem g96_2 : m_get 96 2 = some (.iadd, 1) := by decide +kernel
theorem g96_3 : m_get 96 3 = some (.iconst 4, 1) := by decide +kernel
theorem g96_4 : m_get 96 4 = some (.irem, 1) := by decide +kernel
theorem g96_5 : m_get 96 5 = some (.ireturn, 1) := by decide +kernel
end
section
/-! facts of the tables, one by one (printed by gen3.py) -/
theorem g97_0 : m_get 97 0 = some (.iload_n 0, 1) := by decide +kernel
theorem g97_1 : m_get 97 1 = some (.iload_n 1, 1) := by decide +kernel
theorem g97_2 : m_get 97 2 = some (.if_icmp .lt 12, 3) := by decide +kernel
theorem g97_5 : m_get 97 5 = some (.iload_n 0, 1) := by decide +kernel
theorem g97_6 : m_get 97 6 = some (.iload_n 2, 1) := by decide +kernel
theorem g97_7 : m_get 97 7 = some (.if_icmp .gt 7, 3) := by decide +kernel
theorem g97_10 : m_get 97 10 = some (.iconst 1, 1) := by decide +kernel
theorem g97_11 : m_get 97 11 = some (.goto 4, 3) := by decide +kernel
theorem g97_14 : m_get 97 14 = some (.iconst 0, 1) := by decide +kernel
theorem g97_15 : m_get 97 15 = some (.ireturn, 1) := by decide +kernel
theorem g98_0 : m_get 98 0 = some (.aload_n 0, 1) := by decide +kernel
theorem g98_1 : m_get 98 1 = some (.invokespecial 1, 3) := by decide +kernel
theorem g98_4 : m_get 98 4 = some (.aload_n 0, 1) := by decide +kernel
theorem g98_5 : m_get 98 5 = some (.bipush 6, 2) := by decide +kernel
theorem g98_7 : m_get 98 7 = some (.newarray .int, 2) := by decide +kernel
theorem g98_9 : m_get 98 9 = some (.putfield 7, 3) := by decide +kernel
theorem g98_12 : m_get 98 12 = some (.aload_n 0, 1) := by decide +kernel
theorem g98_13 : m_get 98 13 = some (.bipush 30, 2) := by decide +kernel
theorem g98_15 : m_get 98 15 = some (.newarray .int, 2) := by decide +kernel
theorem g98_17 : m_get 98 17 = some (.putfield 13, 3) := by decide +kernel
theorem g98_20 : m_get 98 20 = some (.aload_n 0, 1) := by decide +kernel
theorem g98_21 : m_get 98 21 = some (.bipush 15, 2) := by decide +kernel
theorem g98_23 : m_get 98 23 = some (.newarray .int, 2) := by decide +kernel
theorem g98_25 : m_get 98 25 = some (.putfield 16, 3) := by decide +kernel
theorem g98_28 : m_get 98 28 = some (.aload_n 0, 1) := by decide +kernel
theorem g98_29 : m_get 98 29 = some (.sipush 150, 3) := by decide +kernel
theorem g98_32 : m_get 98 32 = some (.newarray .int, 2) := by decide +kernel
theorem g98_34 : m_get 98 34 = some (.putfield 19, 3) := by decide +kernel
theorem g98_37 : m_get 98 37 = some (.aload_n 0, 1) := by decide +kernel
theorem g98_38 : m_get 98 38 = some (.iconst 2, 1) := by decide +kernel
theorem g98_39 : m_get 98 39 = some (.newarray .boolean, 2) := by decide +kernel
theorem g98_41 : m_get 98 41 = some (.putfield 22, 3) := by decide +kernel
theorem g98_44 : m_get 98 44 = some (.aload_n 0, 1) := by decide +kernel
theorem g98_45 : m_get 98 45 = some (.bipush 30, 2) := by decide +kernel
theorem g98_47 : m_get 98 47 = some (.newarray .int, 2) := by decide +kernel
theorem g98_49 : m_get 98 49 = some (.putfield 26, 3) := by decide +kernel
theorem g98_52 : m_get 98 52 = some (.aload_n 0, 1) := by decide +kernel
theorem g98_53 : m_get 98 53 = some (.bipush 6, 2) := by decide +kernel
theorem g98_55 : m_get 98 55 = some (.newarray .int, 2) := by decide +kernel
theorem g98_57 : m_get 98 57 = some (.putfield 29, 3) := by decide +kernel
theorem g98_60 : m_get 98 60 = some (.aload_n 0, 1) := by decide +kernel
theorem g98_61 : m_get 98 61 = some (.bipush 30, 2) := by decide +kernel
theorem g98_63 : m_get 98 63 = some (.newarray .int, 2) := by decide +kernel
theorem g98_65 : m_get 98 65 = some (.putfield 32, 3) := by decide +kernel
theorem g98_68 : m_get 98 68 = some (.aload_n 0, 1) := by decide +kernel
theorem g98_69 : m_get 98 69 = some (.bipush 6, 2) := by decide +kernel
theorem g98_71 : m_get 98 71 = some (.newarray .int, 2) := by decide +kernel
theorem g98_73 : m_get 98 73 = some (.putfield 35, 3) := by decide +kernel
theorem g98_76 : m_get 98 76 = some (.aload_n 0, 1) := by decide +kernel
theorem g98_77 : m_get 98 77 = some (.bipush 120, 2) := by decide +kernel
theorem g98_79 : m_get 98 79 = some (.newarray .int, 2) := by decide +kernel
theorem g98_81 : m_get 98 81 = some (.putfield 38, 3) := by decide +kernel
theorem g98_84 : m_get 98 84 = some (.aload_n 0, 1) := by decide +kernel
theorem g98_85 : m_get 98 85 = some (.bipush 15, 2) := by decide +kernel
theorem g98_87 : m_get 98 87 = some (.newarray .int, 2) := by decide +kernel
theorem g98_89 : m_get 98 89 = some (.putfield 41, 3) := by decide +kernel
theorem g98_92 : m_get 98 92 = some (.aload_n 0, 1) := by decide +kernel
theorem g98_93 : m_get 98 93 = some (.bipush 9, 2) := by decide +kernel
theorem g98_95 : m_get 98 95 = some (.newarray .int, 2) := by decide +kernel
theorem g98_97 : m_get 98 97 = some (.putfield 44, 3) := by decide +kernel
theorem g98_100 : m_get 98 100 = some (.aload_n 0, 1) := by decide +kernel
theorem g98_101 : m_get 98 101 = some (.bipush 9, 2) := by decide +kernel
theorem g98_103 : m_get 98 103 = some (.newarray .int, 2) := by decide +kernel
theorem g98_105 : m_get 98 105 = some (.putfield 47, 3) := by decide +kernel
theorem g98_108 : m_get 98 108 = some (.aload_n 0, 1) := by decide +kernel
theorem g98_109 : m_get 98 109 = some (.bipush 9, 2) := by decide +kernel
theorem g98_111 : m_get 98 111 = some (.newarray .int, 2) := by decide +kernel
theorem g98_113 : m_get 98 113 = some (.putfield 50, 3) := by decide +kernel
theorem g98_116 : m_get 98 116 = some (.aload_n 0, 1) := by decide +kernel
theorem g98_117 : m_get 98 117 = some (.bipush 9, 2) := by decide +kernel
theorem g98_119 : m_get 98 119 = some (.newarray .int, 2) := by decide +kernel
theorem g98_121 : m_get 98 121 = some (.putfield 53, 3) := by decide +kernel
theorem g98_124 : m_get 98 124 = some (.aload_n 0, 1) := by decide +kernel
theorem g98_125 : m_get 98 125 = some (.sipush 625, 3) := by decide +kernel
theorem g98_128 : m_get 98 128 = some (.newarray .int, 2) := by decide +kernel
theorem g98_130 : m_get 98 130 = some (.putfield 56, 3) := by decide +kernel
theorem g98_133 : m_get 98 133 = some (.aload_n 0, 1) := by decide +kernel
theorem g98_134 : m_get 98 134 = some (.sipush 625, 3) := by decide +kernel
theorem g98_137 : m_get 98 137 = some (.newarray .int, 2) := by decide +kernel
theorem g98_139 : m_get 98 139 = some (.putfield 59, 3) := by decide +kernel
theorem g98_142 : m_get 98 142 = some (.aload_n 0, 1) := by decide +kernel
theorem g98_143 : m_get 98 143 = some (.sipush 1875, 3) := by decide +kernel
theorem g98_146 : m_get 98 146 = some (.newarray .int, 2) := by decide +kernel
theorem g98_148 : m_get 98 148 = some (.putfield 62, 3) := by decide +kernel
theorem g98_151 : m_get 98 151 = some (.aload_n 0, 1) := by decide +kernel
theorem g98_152 : m_get 98 152 = some (.invokevirtual 65, 3) := by decide +kernel
theorem g98_155 : m_get 98 155 = some (.aload_n 0, 1) := by decide +kernel
theorem g98_156 : m_get 98 156 = some (.invokevirtual 68, 3) := by decide +kernel
theorem g98_159 : m_get 98 159 = some (.return_, 1) := by decide +kernel
theorem f98_7 : m_fl (m_own 98) 7 = some (7, 1) := by decide +kernel
theorem f98_13 : m_fl (m_own 98) 13 = some (7, 2) := by decide +kernel
theorem f98_16 : m_fl (m_own 98) 16 = some (7, 3) := by decide +kernel
theorem f98_19 : m_fl (m_own 98) 19 = some (7, 5) := by decide +kernel
theorem f98_22 : m_fl (m_own 98) 22 = some (7, 6) := by decide +kernel
theorem f98_26 : m_fl (m_own 98) 26 = some (7, 7) := by decide +kernel
theorem f98_29 : m_fl (m_own 98) 29 = some (7, 9) := by decide +kernel
theorem f98_32 : m_fl (m_own 98) 32 = some (7, 10) := by decide +kernel
theorem f98_35 : m_fl (m_own 98) 35 = some (7, 11) := by decide +kernel
theorem f98_38 : m_fl (m_own 98) 38 = some (7, 13) := by decide +kernel
theorem f98_41 : m_fl (m_own 98) 41 = some (7, 17) := by decide +kernel
theorem f98_44 : m_fl (m_own 98) 44 = some (7, 18) := by decide +kernel
theorem f98_47 : m_fl (m_own 98) 47 = some (7, 20) := by decide +kernel
theorem f98_50 : m_fl (m_own 98) 50 = some (7, 21) := by decide +kernel
theorem f98_53 : m_fl (m_own 98) 53 = some (7, 26) := by decide +kernel
theorem f98_56 : m_fl (m_own 98) 56 = some (7, 27) := by decide +kernel
theorem f98_59 : m_fl (m_own 98) 59 = some (7, 28) := by decide +kernel
theorem f98_62 : m_fl (m_own 98) 62 = some (7, 29) := by decide +kernel
theorem k98_1 : m_ml (m_own 98) 1 = some (5, 0) := by decide +kernel
theorem k98_65 : m_ml (m_own 98) 65 = some (0, 99) := by decide +kernel
theorem k98_68 : m_ml (m_own 98) 68 = some (0, 100) := by decide +kernel
theorem g99_0 : m_get 99 0 = some (.aload_n 0, 1) := by decide +kernel
theorem g99_1 : m_get 99 1 = some (.iconst 0, 1) := by decide +kernel
theorem g99_2 : m_get 99 2 = some (.putfield 71, 3) := by decide +kernel
theorem g99_5 : m_get 99 5 = some (.aload_n 0, 1) := by decide +kernel
theorem g99_6 : m_get 99 6 = some (.getfield 29, 3) := by decide +kernel
theorem g99_9 : m_get 99 9 = some (.iconst 0, 1) := by decide +kernel
theorem g99_10 : m_get 99 10 = some (.iconst 2, 1) := by decide +kernel
theorem g99_11 : m_get 99 11 = some (.iastore, 1) := by decide +kernel
theorem g99_12 : m_get 99 12 = some (.aload_n 0, 1) := by decide +kernel
theorem g99_13 : m_get 99 13 = some (.getfield 29, 3) := by decide +kernel
theorem g99_16 : m_get 99 16 = some (.iconst 1, 1) := by decide +kernel
theorem g99_17 : m_get 99 17 = some (.iconst 2, 1) := by decide +kernel
theorem g99_18 : m_get 99 18 = some (.iastore, 1) := by decide +kernel
theorem g99_19 : m_get 99 19 = some (.aload_n 0, 1) := by decide +kernel
theorem g99_20 : m_get 99 20 = some (.getfield 29, 3) := by decide +kernel
theorem g99_23 : m_get 99 23 = some (.iconst 2, 1) := by decide +kernel
theorem g99_24 : m_get 99 24 = some (.bipush (-9), 2) := by decide +kernel
theorem g99_26 : m_get 99 26 = some (.iastore, 1) := by decide +kernel
theorem g99_27 : m_get 99 27 = some (.aload_n 0, 1) := by decide +kernel
theorem g99_28 : m_get 99 28 = some (.getfield 29, 3) := by decide +kernel
theorem g99_31 : m_get 99 31 = some (.iconst 3, 1) := by decide +kernel
theorem g99_32 : m_get 99 32 = some (.bipush 9, 2) := by decide +kernel
theorem g99_34 : m_get 99 34 = some (.iastore, 1) := by decide +kernel
theorem g99_35 : m_get 99 35 = some (.aload_n 0, 1) := by decide +kernel
theorem g99_36 : m_get 99 36 = some (.getfield 29, 3) := by decide +kernel
theorem g99_39 : m_get 99 39 = some (.iconst 4, 1) := by decide +kernel
theorem g99_40 : m_get 99 40 = some (.iconst 4, 1) := by decide +kernel
theorem g99_41 : m_get 99 41 = some (.iastore, 1) := by decide +kernel
theorem g99_42 : m_get 99 42 = some (.aload_n 0, 1) := by decide +kernel
theorem g99_43 : m_get 99 43 = some (.getfield 29, 3) := by decide +kernel
theorem g99_46 : m_get 99 46 = some (.iconst 5, 1) := by decide +kernel
theorem g99_47 : m_get 99 47 = some (.iconst 1, 1) := by decide +kernel
theorem g99_48 : m_get 99 48 = some (.iastore, 1) := by decide +kernel
theorem g99_49 : m_get 99 49 = some (.return_, 1) := by decide +kernel
theorem f99_29 : m_fl (m_own 99) 29 = some (7, 9) := by decide +kernel
theorem f99_71 : m_fl (m_own 99) 71 = some (7, 8) := by decide +kernel
theorem g100_0 : m_get 100 0 = some (.aload_n 0, 1) := by decide +kernel
theorem g100_1 : m_get 100 1 = some (.aload_n 0, 1) := by decide +kernel
theorem g100_2 : m_get 100 2 = some (.getfield 71, 3) := by decide +kernel
theorem g100_5 : m_get 100 5 = some (.putfield 75, 3) := by decide +kernel
theorem g100_8 : m_get 100 8 = some (.iconst 0, 1) := by decide +kernel
theorem g100_9 : m_get 100 9 = some (.istore_n 1, 1) := by decide +kernel
theorem g100_10 : m_get 100 10 = some (.iload_n 1, 1) := by decide +kernel
theorem g100_11 : m_get 100 11 = some (.bipush 6, 2) := by decide +kernel
theorem g100_13 : m_get 100 13 = some (.if_icmp .ge 21, 3) := by decide +kernel
theorem g100_16 : m_get 100 16 = some (.aload_n 0, 1) := by decide +kernel
theorem g100_17 : m_get 100 17 = some (.getfield 7, 3) := by decide +kernel
theorem g100_20 : m_get 100 20 = some (.iload_n 1, 1) := by decide +kernel
theorem g100_21 : m_get 100 21 = some (.aload_n 0, 1) := by decide +kernel
theorem g100_22 : m_get 100 22 = some (.getfield 29, 3) := by decide +kernel
theorem g100_25 : m_get 100 25 = some (.iload_n 1, 1) := by decide +kernel
theorem g100_26 : m_get 100 26 = some (.iaload, 1) := by decide +kernel
theorem g100_27 : m_get 100 27 = some (.iastore, 1) := by decide +kernel
theorem g100_28 : m_get 100 28 = some (.iinc 1 1, 3) := by decide +kernel
theorem g100_31 : m_get 100 31 = some (.goto (-21), 3) := by decide +kernel
theorem g100_34 : m_get 100 34 = some (.iconst 0, 1) := by decide +kernel
theorem g100_35 : m_get 100 35 = some (.istore_n 1, 1) := by decide +kernel
theorem g100_36 : m_get 100 36 = some (.iload_n 1, 1) := by decide +kernel
theorem g100_37 : m_get 100 37 = some (.bipush 30, 2) := by decide +kernel
theorem g100_39 : m_get 100 39 = some (.if_icmp .ge 21, 3) := by decide +kernel
theorem g100_42 : m_get 100 42 = some (.aload_n 0, 1) := by decide +kernel
theorem g100_43 : m_get 100 43 = some (.getfield 13, 3) := by decide +kernel
theorem g100_46 : m_get 100 46 = some (.iload_n 1, 1) := by decide +kernel
theorem g100_47 : m_get 100 47 = some (.aload_n 0, 1) := by decide +kernel
theorem g100_48 : m_get 100 48 = some (.getfield 32, 3) := by decide +kernel
theorem g100_51 : m_get 100 51 = some (.iload_n 1, 1) := by decide +kernel
theorem g100_52 : m_get 100 52 = some (.iaload, 1) := by decide +kernel
theorem g100_53 : m_get 100 53 = some (.iastore, 1) := by decide +kernel
theorem g100_54 : m_get 100 54 = some (.iinc 1 1, 3) := by decide +kernel
theorem g100_57 : m_get 100 57 = some (.goto (-21), 3) := by decide +kernel
theorem g100_60 : m_get 100 60 = some (.iconst 0, 1) := by decide +kernel
theorem g100_61 : m_get 100 61 = some (.istore_n 1, 1) := by decide +kernel
theorem g100_62 : m_get 100 62 = some (.iload_n 1, 1) := by decide +kernel
theorem g100_63 : m_get 100 63 = some (.bipush 9, 2) := by decide +kernel
theorem g100_65 : m_get 100 65 = some (.if_icmp .ge 17, 3) := by decide +kernel
theorem g100_68 : m_get 100 68 = some (.aload_n 0, 1) := by decide +kernel
theorem g100_69 : m_get 100 69 = some (.getfield 16, 3) := by decide +kernel
theorem g100_72 : m_get 100 72 = some (.iload_n 1, 1) := by decide +kernel
theorem g100_73 : m_get 100 73 = some (.bipush (-9), 2) := by decide +kernel
theorem g100_75 : m_get 100 75 = some (.iastore, 1) := by decide +kernel
theorem g100_76 : m_get 100 76 = some (.iinc 1 1, 3) := by decide +kernel
theorem g100_79 : m_get 100 79 = some (.goto (-17), 3) := by decide +kernel
theorem g100_82 : m_get 100 82 = some (.iconst 0, 1) := by decide +kernel
theorem g100_83 : m_get 100 83 = some (.istore_n 1, 1) := by decide +kernel
theorem g100_84 : m_get 100 84 = some (.iload_n 1, 1) := by decide +kernel
theorem g100_85 : m_get 100 85 = some (.bipush 6, 2) := by decide +kernel
theorem g100_87 : m_get 100 87 = some (.if_icmp .ge 36, 3) := by decide +kernel
theorem g100_90 : m_get 100 90 = some (.aload_n 0, 1) := by decide +kernel
theorem g100_91 : m_get 100 91 = some (.getfield 16, 3) := by decide +kernel
theorem g100_94 : m_get 100 94 = some (.bipush 9, 2) := by decide +kernel
theorem g100_96 : m_get 100 96 = some (.iload_n 1, 1) := by decide +kernel
theorem g100_97 : m_get 100 97 = some (.iadd, 1) := by decide +kernel
theorem g100_98 : m_get 100 98 = some (.iload_n 1, 1) := by decide +kernel
theorem g100_99 : m_get 100 99 = some (.aload_n 0, 1) := by decide +kernel
theorem g100_100 : m_get 100 100 = some (.getfield 75, 3) := by decide +kernel
theorem g100_103 : m_get 100 103 = some (.if_icmp .ge 12, 3) := by decide +kernel
theorem g100_106 : m_get 100 106 = some (.aload_n 0, 1) := by decide +kernel
theorem g100_107 : m_get 100 107 = some (.getfield 35, 3) := by decide +kernel
theorem g100_110 : m_get 100 110 = some (.iload_n 1, 1) := by decide +kernel
theorem g100_111 : m_get 100 111 = some (.iaload, 1) := by decide +kernel
theorem g100_112 : m_get 100 112 = some (.goto 4, 3) := by decide +kernel
theorem g100_115 : m_get 100 115 = some (.iconst 0, 1) := by decide +kernel
theorem g100_116 : m_get 100 116 = some (.iastore, 1) := by decide +kernel
theorem g100_117 : m_get 100 117 = some (.iinc 1 1, 3) := by decide +kernel
theorem g100_120 : m_get 100 120 = some (.goto (-36), 3) := by decide +kernel
theorem g100_123 : m_get 100 123 = some (.aload_n 0, 1) := by decide +kernel
theorem g100_124 : m_get 100 124 = some (.iconst 0, 1) := by decide +kernel
theorem g100_125 : m_get 100 125 = some (.putfield 78, 3) := by decide +kernel
theorem g100_128 : m_get 100 128 = some (.aload_n 0, 1) := by decide +kernel
theorem g100_129 : m_get 100 129 = some (.getfield 22, 3) := by decide +kernel
theorem g100_132 : m_get 100 132 = some (.iconst 0, 1) := by decide +kernel
theorem g100_133 : m_get 100 133 = some (.iconst 0, 1) := by decide +kernel
theorem g100_134 : m_get 100 134 = some (.bastore, 1) := by decide +kernel
theorem g100_135 : m_get 100 135 = some (.aload_n 0, 1) := by decide +kernel
theorem g100_136 : m_get 100 136 = some (.getfield 22, 3) := by decide +kernel
theorem g100_139 : m_get 100 139 = some (.iconst 1, 1) := by decide +kernel
theorem g100_140 : m_get 100 140 = some (.iconst 0, 1) := by decide +kernel
theorem g100_141 : m_get 100 141 = some (.bastore, 1) := by decide +kernel
theorem g100_142 : m_get 100 142 = some (.return_, 1) := by decide +kernel
theorem f100_7 : m_fl (m_own 100) 7 = some (7, 1) := by decide +kernel
theorem f100_13 : m_fl (m_own 100) 13 = some (7, 2) := by decide +kernel
theorem f100_16 : m_fl (m_own 100) 16 = some (7, 3) := by decide +kernel
theorem f100_22 : m_fl (m_own 100) 22 = some (7, 6) := by decide +kernel
theorem f100_29 : m_fl (m_own 100) 29 = some (7, 9) := by decide +kernel
theorem f100_32 : m_fl (m_own 100) 32 = some (7, 10) := by decide +kernel
theorem f100_35 : m_fl (m_own 100) 35 = some (7, 11) := by decide +kernel
theorem f100_71 : m_fl (m_own 100) 71 = some (7, 8) := by decide +kernel
theorem f100_75 : m_fl (m_own 100) 75 = some (7, 0) := by decide +kernel
theorem f100_78 : m_fl (m_own 100) 78 = some (7, 4) := by decide +kernel
theorem g101_0 : m_get 101 0 = some (.iload_n 1, 1) := by decide +kernel
theorem g101_1 : m_get 101 1 = some (.iconst 0, 1) := by decide +kernel
theorem g101_2 : m_get 101 2 = some (.sipush 255, 3) := by decide +kernel
theorem g101_5 : m_get 101 5 = some (.invokestatic 81, 3) := by decide +kernel
theorem g101_8 : m_get 101 8 = some (.ifCond .ne 5, 3) := by decide +kernel
theorem g101_11 : m_get 101 11 = some (.iconst (-1), 1) := by decide +kernel
theorem g101_12 : m_get 101 12 = some (.ireturn, 1) := by decide +kernel
theorem g101_13 : m_get 101 13 = some (.aload_n 0, 1) := by decide +kernel
theorem g101_14 : m_get 101 14 = some (.getfield 85, 3) := by decide +kernel
theorem g101_17 : m_get 101 17 = some (.bipush 120, 2) := by decide +kernel
theorem g101_19 : m_get 101 19 = some (.if_icmp .ne 6, 3) := by decide +kernel
theorem g101_22 : m_get 101 22 = some (.bipush (-3), 2) := by decide +kernel
theorem g101_24 : m_get 101 24 = some (.ireturn, 1) := by decide +kernel
theorem g101_25 : m_get 101 25 = some (.aload_n 0, 1) := by decide +kernel
theorem g101_26 : m_get 101 26 = some (.getfield 38, 3) := by decide +kernel
theorem g101_29 : m_get 101 29 = some (.aload_n 0, 1) := by decide +kernel
theorem g101_30 : m_get 101 30 = some (.getfield 85, 3) := by decide +kernel
theorem g101_33 : m_get 101 33 = some (.iload_n 1, 1) := by decide +kernel
theorem g101_34 : m_get 101 34 = some (.iastore, 1) := by decide +kernel
theorem g101_35 : m_get 101 35 = some (.aload_n 0, 1) := by decide +kernel
theorem g101_36 : m_get 101 36 = some (.dup, 1) := by decide +kernel
theorem g101_37 : m_get 101 37 = some (.getfield 85, 3) := by decide +kernel
theorem g101_40 : m_get 101 40 = some (.iconst 1, 1) := by decide +kernel
theorem g101_41 : m_get 101 41 = some (.iadd, 1) := by decide +kernel
theorem g101_42 : m_get 101 42 = some (.putfield 85, 3) := by decide +kernel
theorem g101_45 : m_get 101 45 = some (.aload_n 0, 1) := by decide +kernel
theorem g101_46 : m_get 101 46 = some (.getfield 85, 3) := by decide +kernel
theorem g101_49 : m_get 101 49 = some (.ireturn, 1) := by decide +kernel
theorem f101_38 : m_fl (m_own 101) 38 = some (7, 13) := by decide +kernel
theorem f101_85 : m_fl (m_own 101) 85 = some (7, 12) := by decide +kernel
theorem k101_81 : m_ml (m_own 101) 81 = some (1, 97) := by decide +kernel
theorem g102_0 : m_get 102 0 = some (.aload_n 0, 1) := by decide +kernel
theorem g102_1 : m_get 102 1 = some (.getfield 85, 3) := by decide +kernel
theorem g102_4 : m_get 102 4 = some (.istore_n 1, 1) := by decide +kernel
theorem g102_5 : m_get 102 5 = some (.aload_n 0, 1) := by decide +kernel
theorem g102_6 : m_get 102 6 = some (.iconst 0, 1) := by decide +kernel
theorem g102_7 : m_get 102 7 = some (.putfield 85, 3) := by decide +kernel
theorem g102_10 : m_get 102 10 = some (.iload_n 1, 1) := by decide +kernel
theorem g102_11 : m_get 102 11 = some (.ireturn, 1) := by decide +kernel
theorem f102_85 : m_fl (m_own 102) 85 = some (7, 12) := by decide +kernel
theorem g103_0 : m_get 103 0 = some (.aload_n 0, 1) := by decide +kernel
theorem g103_1 : m_get 103 1 = some (.getfield 88, 3) := by decide +kernel
theorem g103_4 : m_get 103 4 = some (.aload_n 0, 1) := by decide +kernel
theorem g103_5 : m_get 103 5 = some (.getfield 85, 3) := by decide +kernel
theorem g103_8 : m_get 103 8 = some (.if_icmp .ge 30, 3) := by decide +kernel
theorem g103_11 : m_get 103 11 = some (.aload_n 0, 1) := by decide +kernel
theorem g103_12 : m_get 103 12 = some (.getfield 38, 3) := by decide +kernel
theorem g103_15 : m_get 103 15 = some (.aload_n 0, 1) := by decide +kernel
theorem g103_16 : m_get 103 16 = some (.getfield 88, 3) := by decide +kernel
theorem g103_19 : m_get 103 19 = some (.iaload, 1) := by decide +kernel
theorem g103_20 : m_get 103 20 = some (.bipush 32, 2) := by decide +kernel
theorem g103_22 : m_get 103 22 = some (.if_icmp .ne 16, 3) := by decide +kernel
theorem g103_25 : m_get 103 25 = some (.aload_n 0, 1) := by decide +kernel
theorem g103_26 : m_get 103 26 = some (.dup, 1) := by decide +kernel
theorem g103_27 : m_get 103 27 = some (.getfield 88, 3) := by decide +kernel
theorem g103_30 : m_get 103 30 = some (.iconst 1, 1) := by decide +kernel
theorem g103_31 : m_get 103 31 = some (.iadd, 1) := by decide +kernel
theorem g103_32 : m_get 103 32 = some (.putfield 88, 3) := by decide +kernel
theorem g103_35 : m_get 103 35 = some (.goto (-35), 3) := by decide +kernel
theorem g103_38 : m_get 103 38 = some (.aload_n 0, 1) := by decide +kernel
theorem g103_39 : m_get 103 39 = some (.getfield 88, 3) := by decide +kernel
theorem g103_42 : m_get 103 42 = some (.aload_n 0, 1) := by decide +kernel
theorem g103_43 : m_get 103 43 = some (.getfield 85, 3) := by decide +kernel
theorem g103_46 : m_get 103 46 = some (.if_icmp .ge 15, 3) := by decide +kernel
theorem g103_49 : m_get 103 49 = some (.aload_n 0, 1) := by decide +kernel
theorem g103_50 : m_get 103 50 = some (.getfield 38, 3) := by decide +kernel
theorem g103_53 : m_get 103 53 = some (.aload_n 0, 1) := by decide +kernel
theorem g103_54 : m_get 103 54 = some (.getfield 88, 3) := by decide +kernel
theorem g103_57 : m_get 103 57 = some (.iaload, 1) := by decide +kernel
theorem g103_58 : m_get 103 58 = some (.goto 4, 3) := by decide +kernel
theorem g103_61 : m_get 103 61 = some (.iconst (-1), 1) := by decide +kernel
theorem g103_62 : m_get 103 62 = some (.ireturn, 1) := by decide +kernel
theorem f103_38 : m_fl (m_own 103) 38 = some (7, 13) := by decide +kernel
theorem f103_85 : m_fl (m_own 103) 85 = some (7, 12) := by decide +kernel
theorem f103_88 : m_fl (m_own 103) 88 = some (7, 14) := by decide +kernel
theorem g104_0 : m_get 104 0 = some (.aload_n 0, 1) := by decide +kernel
theorem g104_1 : m_get 104 1 = some (.invokevirtual 91, 3) := by decide +kernel
theorem g104_4 : m_get 104 4 = some (.istore_n 3, 1) := by decide +kernel
theorem g104_5 : m_get 104 5 = some (.aload_n 0, 1) := by decide +kernel
theorem g104_6 : m_get 104 6 = some (.getfield 88, 3) := by decide +kernel
theorem g104_9 : m_get 104 9 = some (.istore 4, 2) := by decide +kernel
theorem g104_11 : m_get 104 11 = some (.iconst 0, 1) := by decide +kernel
theorem g104_12 : m_get 104 12 = some (.istore 5, 2) := by decide +kernel
theorem g104_14 : m_get 104 14 = some (.iload 4, 2) := by decide +kernel
theorem g104_16 : m_get 104 16 = some (.aload_n 0, 1) := by decide +kernel
theorem g104_17 : m_get 104 17 = some (.getfield 85, 3) := by decide +kernel
theorem g104_20 : m_get 104 20 = some (.if_icmp .ge 56, 3) := by decide +kernel
theorem g104_23 : m_get 104 23 = some (.aload_n 0, 1) := by decide +kernel
theorem g104_24 : m_get 104 24 = some (.getfield 38, 3) := by decide +kernel
theorem g104_27 : m_get 104 27 = some (.iload 4, 2) := by decide +kernel
theorem g104_29 : m_get 104 29 = some (.iaload, 1) := by decide +kernel
theorem g104_30 : m_get 104 30 = some (.bipush 48, 2) := by decide +kernel
theorem g104_32 : m_get 104 32 = some (.bipush 57, 2) := by decide +kernel
theorem g104_34 : m_get 104 34 = some (.invokestatic 81, 3) := by decide +kernel
theorem g104_37 : m_get 104 37 = some (.ifCond .eq 39, 3) := by decide +kernel
theorem g104_40 : m_get 104 40 = some (.iload 5, 2) := by decide +kernel
theorem g104_42 : m_get 104 42 = some (.bipush 99, 2) := by decide +kernel
theorem g104_44 : m_get 104 44 = some (.if_icmp .le 8, 3) := by decide +kernel
theorem g104_47 : m_get 104 47 = some (.iload 5, 2) := by decide +kernel
theorem g104_49 : m_get 104 49 = some (.goto 19, 3) := by decide +kernel
theorem g104_52 : m_get 104 52 = some (.bipush 10, 2) := by decide +kernel
theorem g104_54 : m_get 104 54 = some (.iload 5, 2) := by decide +kernel
theorem g104_56 : m_get 104 56 = some (.imul, 1) := by decide +kernel
theorem g104_57 : m_get 104 57 = some (.aload_n 0, 1) := by decide +kernel
theorem g104_58 : m_get 104 58 = some (.getfield 38, 3) := by decide +kernel
theorem g104_61 : m_get 104 61 = some (.iload 4, 2) := by decide +kernel
theorem g104_63 : m_get 104 63 = some (.iaload, 1) := by decide +kernel
theorem g104_64 : m_get 104 64 = some (.iadd, 1) := by decide +kernel
theorem g104_65 : m_get 104 65 = some (.bipush 48, 2) := by decide +kernel
theorem g104_67 : m_get 104 67 = some (.isub, 1) := by decide +kernel
theorem g104_68 : m_get 104 68 = some (.istore 5, 2) := by decide +kernel
theorem g104_70 : m_get 104 70 = some (.iinc 4 1, 3) := by decide +kernel
theorem g104_73 : m_get 104 73 = some (.goto (-59), 3) := by decide +kernel
theorem g104_76 : m_get 104 76 = some (.iload 4, 2) := by decide +kernel
theorem g104_78 : m_get 104 78 = some (.aload_n 0, 1) := by decide +kernel
theorem g104_79 : m_get 104 79 = some (.getfield 88, 3) := by decide +kernel
theorem g104_82 : m_get 104 82 = some (.if_icmp .le 34, 3) := by decide +kernel
theorem g104_85 : m_get 104 85 = some (.iload_n 3, 1) := by decide +kernel
theorem g104_86 : m_get 104 86 = some (.bipush 48, 2) := by decide +kernel
theorem g104_88 : m_get 104 88 = some (.if_icmp .ne 14, 3) := by decide +kernel
theorem g104_91 : m_get 104 91 = some (.iload 4, 2) := by decide +kernel
theorem g104_93 : m_get 104 93 = some (.aload_n 0, 1) := by decide +kernel
theorem g104_94 : m_get 104 94 = some (.getfield 88, 3) := by decide +kernel
theorem g104_97 : m_get 104 97 = some (.iconst 1, 1) := by decide +kernel
theorem g104_98 : m_get 104 98 = some (.iadd, 1) := by decide +kernel
theorem g104_99 : m_get 104 99 = some (.if_icmp .ne 17, 3) := by decide +kernel
theorem g104_102 : m_get 104 102 = some (.iload 5, 2) := by decide +kernel
theorem g104_104 : m_get 104 104 = some (.iload_n 1, 1) := by decide +kernel
theorem g104_105 : m_get 104 105 = some (.iload_n 2, 1) := by decide +kernel
theorem g104_106 : m_get 104 106 = some (.invokestatic 81, 3) := by decide +kernel
theorem g104_109 : m_get 104 109 = some (.ifCond .eq 7, 3) := by decide +kernel
theorem g104_112 : m_get 104 112 = some (.iconst 1, 1) := by decide +kernel
theorem g104_113 : m_get 104 113 = some (.goto 4, 3) := by decide +kernel
theorem g104_116 : m_get 104 116 = some (.iconst 0, 1) := by decide +kernel
theorem g104_117 : m_get 104 117 = some (.istore 6, 2) := by decide +kernel
theorem g104_119 : m_get 104 119 = some (.aload_n 0, 1) := by decide +kernel
theorem g104_120 : m_get 104 120 = some (.iload 6, 2) := by decide +kernel
theorem g104_122 : m_get 104 122 = some (.ifCond .eq 8, 3) := by decide +kernel
theorem g104_125 : m_get 104 125 = some (.iload 4, 2) := by decide +kernel
theorem g104_127 : m_get 104 127 = some (.goto 7, 3) := by decide +kernel
theorem g104_130 : m_get 104 130 = some (.aload_n 0, 1) := by decide +kernel
theorem g104_131 : m_get 104 131 = some (.getfield 88, 3) := by decide +kernel
theorem g104_134 : m_get 104 134 = some (.putfield 88, 3) := by decide +kernel
theorem g104_137 : m_get 104 137 = some (.aload_n 0, 1) := by decide +kernel
theorem g104_138 : m_get 104 138 = some (.iload 5, 2) := by decide +kernel
theorem g104_140 : m_get 104 140 = some (.putfield 95, 3) := by decide +kernel
theorem g104_143 : m_get 104 143 = some (.iload 6, 2) := by decide +kernel
theorem g104_145 : m_get 104 145 = some (.ireturn, 1) := by decide +kernel
theorem f104_38 : m_fl (m_own 104) 38 = some (7, 13) := by decide +kernel
theorem f104_85 : m_fl (m_own 104) 85 = some (7, 12) := by decide +kernel
theorem f104_88 : m_fl (m_own 104) 88 = some (7, 14) := by decide +kernel
theorem f104_95 : m_fl (m_own 104) 95 = some (7, 15) := by decide +kernel
theorem k104_81 : m_ml (m_own 104) 81 = some (1, 97) := by decide +kernel
theorem k104_91 : m_ml (m_own 104) 91 = some (0, 103) := by decide +kernel
theorem g105_0 : m_get 105 0 = some (.aload_n 0, 1) := by decide +kernel
theorem g105_1 : m_get 105 1 = some (.getfield 71, 3) := by decide +kernel
theorem g105_4 : m_get 105 4 = some (.bipush 6, 2) := by decide +kernel
theorem g105_6 : m_get 105 6 = some (.if_icmp .ne 5, 3) := by decide +kernel
theorem g105_9 : m_get 105 9 = some (.iconst 0, 1) := by decide +kernel
theorem g105_10 : m_get 105 10 = some (.ireturn, 1) := by decide +kernel
theorem g105_11 : m_get 105 11 = some (.aload_n 0, 1) := by decide +kernel
theorem g105_12 : m_get 105 12 = some (.dup, 1) := by decide +kernel
theorem g105_13 : m_get 105 13 = some (.getfield 88, 3) := by decide +kernel
theorem g105_16 : m_get 105 16 = some (.iconst 1, 1) := by decide +kernel
theorem g105_17 : m_get 105 17 = some (.iadd, 1) := by decide +kernel
theorem g105_18 : m_get 105 18 = some (.putfield 88, 3) := by decide +kernel
theorem g105_21 : m_get 105 21 = some (.iconst 0, 1) := by decide +kernel
theorem g105_22 : m_get 105 22 = some (.istore_n 1, 1) := by decide +kernel
theorem g105_23 : m_get 105 23 = some (.iload_n 1, 1) := by decide +kernel
theorem g105_24 : m_get 105 24 = some (.bipush 6, 2) := by decide +kernel
theorem g105_26 : m_get 105 26 = some (.if_icmp .ge 68, 3) := by decide +kernel
theorem g105_29 : m_get 105 29 = some (.aload_n 0, 1) := by decide +kernel
theorem g105_30 : m_get 105 30 = some (.iconst 0, 1) := by decide +kernel
theorem g105_31 : m_get 105 31 = some (.iload_n 1, 1) := by decide +kernel
theorem g105_32 : m_get 105 32 = some (.iconst 4, 1) := by decide +kernel
theorem g105_33 : m_get 105 33 = some (.if_icmp .ne 7, 3) := by decide +kernel
theorem g105_36 : m_get 105 36 = some (.iconst 5, 1) := by decide +kernel
theorem g105_37 : m_get 105 37 = some (.goto 5, 3) := by decide +kernel
theorem g105_40 : m_get 105 40 = some (.bipush 9, 2) := by decide +kernel
theorem g105_42 : m_get 105 42 = some (.invokevirtual 98, 3) := by decide +kernel
theorem g105_45 : m_get 105 45 = some (.ifCond .ne 5, 3) := by decide +kernel
theorem g105_48 : m_get 105 48 = some (.iconst 0, 1) := by decide +kernel
theorem g105_49 : m_get 105 49 = some (.ireturn, 1) := by decide +kernel
theorem g105_50 : m_get 105 50 = some (.iload_n 1, 1) := by decide +kernel
theorem g105_51 : m_get 105 51 = some (.iconst 5, 1) := by decide +kernel
theorem g105_52 : m_get 105 52 = some (.if_icmp .ge 23, 3) := by decide +kernel
theorem g105_55 : m_get 105 55 = some (.aload_n 0, 1) := by decide +kernel
theorem g105_56 : m_get 105 56 = some (.getfield 32, 3) := by decide +kernel
theorem g105_59 : m_get 105 59 = some (.iconst 5, 1) := by decide +kernel
theorem g105_60 : m_get 105 60 = some (.aload_n 0, 1) := by decide +kernel
theorem g105_61 : m_get 105 61 = some (.getfield 71, 3) := by decide +kernel
theorem g105_64 : m_get 105 64 = some (.imul, 1) := by decide +kernel
theorem g105_65 : m_get 105 65 = some (.iload_n 1, 1) := by decide +kernel
theorem g105_66 : m_get 105 66 = some (.iadd, 1) := by decide +kernel
theorem g105_67 : m_get 105 67 = some (.aload_n 0, 1) := by decide +kernel
theorem g105_68 : m_get 105 68 = some (.getfield 95, 3) := by decide +kernel
theorem g105_71 : m_get 105 71 = some (.iastore, 1) := by decide +kernel
theorem g105_72 : m_get 105 72 = some (.goto 16, 3) := by decide +kernel
theorem g105_75 : m_get 105 75 = some (.aload_n 0, 1) := by decide +kernel
theorem g105_76 : m_get 105 76 = some (.getfield 35, 3) := by decide +kernel
theorem g105_79 : m_get 105 79 = some (.aload_n 0, 1) := by decide +kernel
theorem g105_80 : m_get 105 80 = some (.getfield 71, 3) := by decide +kernel
theorem g105_83 : m_get 105 83 = some (.aload_n 0, 1) := by decide +kernel
theorem g105_84 : m_get 105 84 = some (.getfield 95, 3) := by decide +kernel
theorem g105_87 : m_get 105 87 = some (.iastore, 1) := by decide +kernel
theorem g105_88 : m_get 105 88 = some (.iinc 1 1, 3) := by decide +kernel
theorem g105_91 : m_get 105 91 = some (.goto (-68), 3) := by decide +kernel
theorem g105_94 : m_get 105 94 = some (.aload_n 0, 1) := by decide +kernel
theorem g105_95 : m_get 105 95 = some (.dup, 1) := by decide +kernel
theorem g105_96 : m_get 105 96 = some (.getfield 71, 3) := by decide +kernel
theorem g105_99 : m_get 105 99 = some (.iconst 1, 1) := by decide +kernel
theorem g105_100 : m_get 105 100 = some (.iadd, 1) := by decide +kernel
theorem g105_101 : m_get 105 101 = some (.putfield 71, 3) := by decide +kernel
theorem g105_104 : m_get 105 104 = some (.iconst 1, 1) := by decide +kernel
theorem g105_105 : m_get 105 105 = some (.ireturn, 1) := by decide +kernel
theorem f105_32 : m_fl (m_own 105) 32 = some (7, 10) := by decide +kernel
theorem f105_35 : m_fl (m_own 105) 35 = some (7, 11) := by decide +kernel
theorem f105_71 : m_fl (m_own 105) 71 = some (7, 8) := by decide +kernel
theorem f105_88 : m_fl (m_own 105) 88 = some (7, 14) := by decide +kernel
theorem f105_95 : m_fl (m_own 105) 95 = some (7, 15) := by decide +kernel
theorem k105_98 : m_ml (m_own 105) 98 = some (0, 104) := by decide +kernel
theorem g106_0 : m_get 106 0 = some (.aload_n 0, 1) := by decide +kernel
theorem g106_1 : m_get 106 1 = some (.getfield 102, 3) := by decide +kernel
theorem g106_4 : m_get 106 4 = some (.iload_n 1, 1) := by decide +kernel
theorem g106_5 : m_get 106 5 = some (.iand, 1) := by decide +kernel
theorem g106_6 : m_get 106 6 = some (.ifCond .eq 5, 3) := by decide +kernel
theorem g106_9 : m_get 106 9 = some (.iconst 0, 1) := by decide +kernel
theorem g106_10 : m_get 106 10 = some (.ireturn, 1) := by decide +kernel
theorem g106_11 : m_get 106 11 = some (.aload_n 0, 1) := by decide +kernel
theorem g106_12 : m_get 106 12 = some (.dup, 1) := by decide +kernel
theorem g106_13 : m_get 106 13 = some (.getfield 102, 3) := by decide +kernel
theorem g106_16 : m_get 106 16 = some (.iload_n 1, 1) := by decide +kernel
theorem g106_17 : m_get 106 17 = some (.ior, 1) := by decide +kernel
theorem g106_18 : m_get 106 18 = some (.putfield 102, 3) := by decide +kernel
theorem g106_21 : m_get 106 21 = some (.aload_n 0, 1) := by decide +kernel
theorem g106_22 : m_get 106 22 = some (.dup, 1) := by decide +kernel
theorem g106_23 : m_get 106 23 = some (.getfield 88, 3) := by decide +kernel
theorem g106_26 : m_get 106 26 = some (.iconst 1, 1) := by decide +kernel
theorem g106_27 : m_get 106 27 = some (.iadd, 1) := by decide +kernel
theorem g106_28 : m_get 106 28 = some (.putfield 88, 3) := by decide +kernel
theorem g106_31 : m_get 106 31 = some (.aload_n 0, 1) := by decide +kernel
theorem g106_32 : m_get 106 32 = some (.iload_n 3, 1) := by decide +kernel
theorem g106_33 : m_get 106 33 = some (.iload 4, 2) := by decide +kernel
theorem g106_35 : m_get 106 35 = some (.invokevirtual 98, 3) := by decide +kernel
theorem g106_38 : m_get 106 38 = some (.ifCond .ne 5, 3) := by decide +kernel
theorem g106_41 : m_get 106 41 = some (.iconst 0, 1) := by decide +kernel
theorem g106_42 : m_get 106 42 = some (.ireturn, 1) := by decide +kernel
theorem g106_43 : m_get 106 43 = some (.aload_n 0, 1) := by decide +kernel
theorem g106_44 : m_get 106 44 = some (.getfield 29, 3) := by decide +kernel
theorem g106_47 : m_get 106 47 = some (.iload_n 2, 1) := by decide +kernel
theorem g106_48 : m_get 106 48 = some (.aload_n 0, 1) := by decide +kernel
theorem g106_49 : m_get 106 49 = some (.getfield 95, 3) := by decide +kernel
theorem g106_52 : m_get 106 52 = some (.iastore, 1) := by decide +kernel
theorem g106_53 : m_get 106 53 = some (.iload 5, 2) := by decide +kernel
theorem g106_55 : m_get 106 55 = some (.ifCond .ne 5, 3) := by decide +kernel
theorem g106_58 : m_get 106 58 = some (.iconst 1, 1) := by decide +kernel
theorem g106_59 : m_get 106 59 = some (.ireturn, 1) := by decide +kernel
theorem g106_60 : m_get 106 60 = some (.aload_n 0, 1) := by decide +kernel
theorem g106_61 : m_get 106 61 = some (.iconst 1, 1) := by decide +kernel
theorem g106_62 : m_get 106 62 = some (.iload 5, 2) := by decide +kernel
theorem g106_64 : m_get 106 64 = some (.invokevirtual 98, 3) := by decide +kernel
theorem g106_67 : m_get 106 67 = some (.istore 6, 2) := by decide +kernel
theorem g106_69 : m_get 106 69 = some (.aload_n 0, 1) := by decide +kernel
theorem g106_70 : m_get 106 70 = some (.getfield 29, 3) := by decide +kernel
theorem g106_73 : m_get 106 73 = some (.iload_n 2, 1) := by decide +kernel
theorem g106_74 : m_get 106 74 = some (.iconst 1, 1) := by decide +kernel
theorem g106_75 : m_get 106 75 = some (.iadd, 1) := by decide +kernel
theorem g106_76 : m_get 106 76 = some (.aload_n 0, 1) := by decide +kernel
theorem g106_77 : m_get 106 77 = some (.getfield 95, 3) := by decide +kernel
theorem g106_80 : m_get 106 80 = some (.iastore, 1) := by decide +kernel
theorem g106_81 : m_get 106 81 = some (.iload 6, 2) := by decide +kernel
theorem g106_83 : m_get 106 83 = some (.ireturn, 1) := by decide +kernel
theorem f106_29 : m_fl (m_own 106) 29 = some (7, 9) := by decide +kernel
theorem f106_88 : m_fl (m_own 106) 88 = some (7, 14) := by decide +kernel
theorem f106_95 : m_fl (m_own 106) 95 = some (7, 15) := by decide +kernel
theorem f106_102 : m_fl (m_own 106) 102 = some (7, 16) := by decide +kernel
theorem k106_98 : m_ml (m_own 106) 98 = some (0, 104) := by decide +kernel
theorem g107_0 : m_get 107 0 = some (.aload_n 0, 1) := by decide +kernel
theorem g107_1 : m_get 107 1 = some (.invokevirtual 91, 3) := by decide +kernel
theorem g107_4 : m_get 107 4 = some (.lookupswitch 101 #[(101, 67), (107, 52), (109, 78), (115, 89), (119, 57)], 52) := by decide +kernel
theorem g107_56 : m_get 107 56 = some (.aload_n 0, 1) := by decide +kernel
theorem g107_57 : m_get 107 57 = some (.invokevirtual 105, 3) := by decide +kernel
theorem g107_60 : m_get 107 60 = some (.ireturn, 1) := by decide +kernel
theorem g107_61 : m_get 107 61 = some (.aload_n 0, 1) := by decide +kernel
theorem g107_62 : m_get 107 62 = some (.iconst 1, 1) := by decide +kernel
theorem g107_63 : m_get 107 63 = some (.iconst 0, 1) := by decide +kernel
theorem g107_64 : m_get 107 64 = some (.iconst 1, 1) := by decide +kernel
theorem g107_65 : m_get 107 65 = some (.iconst 3, 1) := by decide +kernel
theorem g107_66 : m_get 107 66 = some (.iconst 2, 1) := by decide +kernel
theorem g107_67 : m_get 107 67 = some (.invokevirtual 109, 3) := by decide +kernel
theorem g107_70 : m_get 107 70 = some (.ireturn, 1) := by decide +kernel
theorem g107_71 : m_get 107 71 = some (.aload_n 0, 1) := by decide +kernel
theorem g107_72 : m_get 107 72 = some (.iconst 2, 1) := by decide +kernel
theorem g107_73 : m_get 107 73 = some (.iconst 2, 1) := by decide +kernel
theorem g107_74 : m_get 107 74 = some (.iconst 0, 1) := by decide +kernel
theorem g107_75 : m_get 107 75 = some (.bipush 9, 2) := by decide +kernel
theorem g107_77 : m_get 107 77 = some (.iconst 0, 1) := by decide +kernel
theorem g107_78 : m_get 107 78 = some (.invokevirtual 109, 3) := by decide +kernel
theorem g107_81 : m_get 107 81 = some (.ireturn, 1) := by decide +kernel
theorem g107_82 : m_get 107 82 = some (.aload_n 0, 1) := by decide +kernel
theorem g107_83 : m_get 107 83 = some (.iconst 4, 1) := by decide +kernel
theorem g107_84 : m_get 107 84 = some (.iconst 3, 1) := by decide +kernel
theorem g107_85 : m_get 107 85 = some (.iconst 1, 1) := by decide +kernel
theorem g107_86 : m_get 107 86 = some (.bipush 9, 2) := by decide +kernel
theorem g107_88 : m_get 107 88 = some (.iconst 0, 1) := by decide +kernel
theorem g107_89 : m_get 107 89 = some (.invokevirtual 109, 3) := by decide +kernel
theorem g107_92 : m_get 107 92 = some (.ireturn, 1) := by decide +kernel
theorem g107_93 : m_get 107 93 = some (.aload_n 0, 1) := by decide +kernel
theorem g107_94 : m_get 107 94 = some (.bipush 8, 2) := by decide +kernel
theorem g107_96 : m_get 107 96 = some (.iconst 4, 1) := by decide +kernel
theorem g107_97 : m_get 107 97 = some (.iconst 1, 1) := by decide +kernel
theorem g107_98 : m_get 107 98 = some (.bipush 9, 2) := by decide +kernel
theorem g107_100 : m_get 107 100 = some (.iconst 4, 1) := by decide +kernel
theorem g107_101 : m_get 107 101 = some (.invokevirtual 109, 3) := by decide +kernel
theorem g107_104 : m_get 107 104 = some (.ireturn, 1) := by decide +kernel
theorem g107_105 : m_get 107 105 = some (.iconst 0, 1) := by decide +kernel
theorem g107_106 : m_get 107 106 = some (.ireturn, 1) := by decide +kernel
theorem k107_91 : m_ml (m_own 107) 91 = some (0, 103) := by decide +kernel
theorem k107_105 : m_ml (m_own 107) 105 = some (0, 105) := by decide +kernel
theorem k107_109 : m_ml (m_own 107) 109 = some (0, 106) := by decide +kernel
theorem g108_0 : m_get 108 0 = some (.aload_n 0, 1) := by decide +kernel
theorem g108_1 : m_get 108 1 = some (.invokevirtual 65, 3) := by decide +kernel
theorem g108_4 : m_get 108 4 = some (.aload_n 0, 1) := by decide +kernel
theorem g108_5 : m_get 108 5 = some (.iconst 0, 1) := by decide +kernel
theorem g108_6 : m_get 108 6 = some (.putfield 102, 3) := by decide +kernel
theorem g108_9 : m_get 108 9 = some (.aload_n 0, 1) := by decide +kernel
theorem g108_10 : m_get 108 10 = some (.iconst 0, 1) := by decide +kernel
theorem g108_11 : m_get 108 11 = some (.putfield 88, 3) := by decide +kernel
theorem g108_14 : m_get 108 14 = some (.iconst 0, 1) := by decide +kernel
theorem g108_15 : m_get 108 15 = some (.istore_n 1, 1) := by decide +kernel
theorem g108_16 : m_get 108 16 = some (.aload_n 0, 1) := by decide +kernel
theorem g108_17 : m_get 108 17 = some (.invokevirtual 91, 3) := by decide +kernel
theorem g108_20 : m_get 108 20 = some (.iconst (-1), 1) := by decide +kernel
theorem g108_21 : m_get 108 21 = some (.if_icmp .eq 43, 3) := by decide +kernel
theorem g108_24 : m_get 108 24 = some (.aload_n 0, 1) := by decide +kernel
theorem g108_25 : m_get 108 25 = some (.invokevirtual 113, 3) := by decide +kernel
theorem g108_28 : m_get 108 28 = some (.ifCond .eq 12, 3) := by decide +kernel
theorem g108_31 : m_get 108 31 = some (.aload_n 0, 1) := by decide +kernel
theorem g108_32 : m_get 108 32 = some (.invokevirtual 91, 3) := by decide +kernel
theorem g108_35 : m_get 108 35 = some (.bipush 59, 2) := by decide +kernel
theorem g108_37 : m_get 108 37 = some (.if_icmp .eq 11, 3) := by decide +kernel
theorem g108_40 : m_get 108 40 = some (.bipush (-10), 2) := by decide +kernel
theorem g108_42 : m_get 108 42 = some (.aload_n 0, 1) := by decide +kernel
theorem g108_43 : m_get 108 43 = some (.getfield 88, 3) := by decide +kernel
theorem g108_46 : m_get 108 46 = some (.isub, 1) := by decide +kernel
theorem g108_47 : m_get 108 47 = some (.ireturn, 1) := by decide +kernel
theorem g108_48 : m_get 108 48 = some (.aload_n 0, 1) := by decide +kernel
theorem g108_49 : m_get 108 49 = some (.dup, 1) := by decide +kernel
theorem g108_50 : m_get 108 50 = some (.getfield 88, 3) := by decide +kernel
theorem g108_53 : m_get 108 53 = some (.iconst 1, 1) := by decide +kernel
theorem g108_54 : m_get 108 54 = some (.iadd, 1) := by decide +kernel
theorem g108_55 : m_get 108 55 = some (.putfield 88, 3) := by decide +kernel
theorem g108_58 : m_get 108 58 = some (.iinc 1 1, 3) := by decide +kernel
theorem g108_61 : m_get 108 61 = some (.goto (-45), 3) := by decide +kernel
theorem g108_64 : m_get 108 64 = some (.aload_n 0, 1) := by decide +kernel
theorem g108_65 : m_get 108 65 = some (.invokevirtual 68, 3) := by decide +kernel
theorem g108_68 : m_get 108 68 = some (.aload_n 0, 1) := by decide +kernel
theorem g108_69 : m_get 108 69 = some (.iconst 0, 1) := by decide +kernel
theorem g108_70 : m_get 108 70 = some (.putfield 85, 3) := by decide +kernel
theorem g108_73 : m_get 108 73 = some (.iload_n 1, 1) := by decide +kernel
theorem g108_74 : m_get 108 74 = some (.ireturn, 1) := by decide +kernel
theorem f108_85 : m_fl (m_own 108) 85 = some (7, 12) := by decide +kernel
theorem f108_88 : m_fl (m_own 108) 88 = some (7, 14) := by decide +kernel
theorem f108_102 : m_fl (m_own 108) 102 = some (7, 16) := by decide +kernel
theorem k108_65 : m_ml (m_own 108) 65 = some (0, 99) := by decide +kernel
theorem k108_68 : m_ml (m_own 108) 68 = some (0, 100) := by decide +kernel
theorem k108_91 : m_ml (m_own 108) 91 = some (0, 103) := by decide +kernel
theorem k108_113 : m_ml (m_own 108) 113 = some (0, 107) := by decide +kernel
theorem g109_0 : m_get 109 0 = some (.iload_n 1, 1) := by decide +kernel
theorem g109_1 : m_get 109 1 = some (.iconst 0, 1) := by decide +kernel
theorem g109_2 : m_get 109 2 = some (.aload_n 0, 1) := by decide +kernel
theorem g109_3 : m_get 109 3 = some (.getfield 75, 3) := by decide +kernel
theorem g109_6 : m_get 109 6 = some (.iconst 1, 1) := by decide +kernel
theorem g109_7 : m_get 109 7 = some (.isub, 1) := by decide +kernel
theorem g109_8 : m_get 109 8 = some (.invokestatic 81, 3) := by decide +kernel
theorem g109_11 : m_get 109 11 = some (.ireturn, 1) := by decide +kernel
theorem f109_75 : m_fl (m_own 109) 75 = some (7, 0) := by decide +kernel
theorem k109_81 : m_ml (m_own 109) 81 = some (1, 97) := by decide +kernel
theorem g110_0 : m_get 110 0 = some (.iload_n 1, 1) := by decide +kernel
theorem g110_1 : m_get 110 1 = some (.iconst 0, 1) := by decide +kernel
theorem g110_2 : m_get 110 2 = some (.iconst 4, 1) := by decide +kernel
theorem g110_3 : m_get 110 3 = some (.aload_n 0, 1) := by decide +kernel
theorem g110_4 : m_get 110 4 = some (.getfield 75, 3) := by decide +kernel
theorem g110_7 : m_get 110 7 = some (.imul, 1) := by decide +kernel
theorem g110_8 : m_get 110 8 = some (.iconst 1, 1) := by decide +kernel
theorem g110_9 : m_get 110 9 = some (.isub, 1) := by decide +kernel
theorem g110_10 : m_get 110 10 = some (.invokestatic 81, 3) := by decide +kernel
theorem g110_13 : m_get 110 13 = some (.ireturn, 1) := by decide +kernel
theorem f110_75 : m_fl (m_own 110) 75 = some (7, 0) := by decide +kernel
theorem k110_81 : m_ml (m_own 110) 81 = some (1, 97) := by decide +kernel
theorem g111_0 : m_get 111 0 = some (.aload_n 0, 1) := by decide +kernel
theorem g111_1 : m_get 111 1 = some (.getfield 7, 3) := by decide +kernel
theorem g111_4 : m_get 111 4 = some (.iconst 0, 1) := by decide +kernel
theorem g111_5 : m_get 111 5 = some (.iaload, 1) := by decide +kernel
theorem g111_6 : m_get 111 6 = some (.aload_n 0, 1) := by decide +kernel
theorem g111_7 : m_get 111 7 = some (.getfield 7, 3) := by decide +kernel
theorem g111_10 : m_get 111 10 = some (.iconst 1, 1) := by decide +kernel
theorem g111_11 : m_get 111 11 = some (.iaload, 1) := by decide +kernel
theorem g111_12 : m_get 111 12 = some (.imul, 1) := by decide +kernel
theorem g111_13 : m_get 111 13 = some (.ireturn, 1) := by decide +kernel
theorem f111_7 : m_fl (m_own 111) 7 = some (7, 1) := by decide +kernel
theorem g112_0 : m_get 112 0 = some (.iload_n 1, 1) := by decide +kernel
theorem g112_1 : m_get 112 1 = some (.iconst 0, 1) := by decide +kernel
theorem g112_2 : m_get 112 2 = some (.aload_n 0, 1) := by decide +kernel
theorem g112_3 : m_get 112 3 = some (.invokevirtual 116, 3) := by decide +kernel
theorem g112_6 : m_get 112 6 = some (.iconst 1, 1) := by decide +kernel
theorem g112_7 : m_get 112 7 = some (.isub, 1) := by decide +kernel
theorem g112_8 : m_get 112 8 = some (.invokestatic 81, 3) := by decide +kernel
theorem g112_11 : m_get 112 11 = some (.ireturn, 1) := by decide +kernel
theorem k112_81 : m_ml (m_own 112) 81 = some (1, 97) := by decide +kernel
theorem k112_116 : m_ml (m_own 112) 116 = some (0, 111) := by decide +kernel
theorem g113_0 : m_get 113 0 = some (.aload_n 0, 1) := by decide +kernel
theorem g113_1 : m_get 113 1 = some (.getfield 13, 3) := by decide +kernel
theorem g113_4 : m_get 113 4 = some (.iconst 5, 1) := by decide +kernel
theorem g113_5 : m_get 113 5 = some (.iload_n 1, 1) := by decide +kernel
theorem g113_6 : m_get 113 6 = some (.iconst 4, 1) := by decide +kernel
theorem g113_7 : m_get 113 7 = some (.idiv, 1) := by decide +kernel
theorem g113_8 : m_get 113 8 = some (.imul, 1) := by decide +kernel
theorem g113_9 : m_get 113 9 = some (.iload_n 2, 1) := by decide +kernel
theorem g113_10 : m_get 113 10 = some (.iload_n 1, 1) := by decide +kernel
theorem g113_11 : m_get 113 11 = some (.iconst 4, 1) := by decide +kernel
theorem g113_12 : m_get 113 12 = some (.irem, 1) := by decide +kernel
theorem g113_13 : m_get 113 13 = some (.isub, 1) := by decide +kernel
theorem g113_14 : m_get 113 14 = some (.iconst 4, 1) := by decide +kernel
theorem g113_15 : m_get 113 15 = some (.iadd, 1) := by decide +kernel
theorem g113_16 : m_get 113 16 = some (.iconst 4, 1) := by decide +kernel
theorem g113_17 : m_get 113 17 = some (.irem, 1) := by decide +kernel
theorem g113_18 : m_get 113 18 = some (.iadd, 1) := by decide +kernel
theorem g113_19 : m_get 113 19 = some (.iaload, 1) := by decide +kernel
theorem g113_20 : m_get 113 20 = some (.ireturn, 1) := by decide +kernel
theorem f113_13 : m_fl (m_own 113) 13 = some (7, 2) := by decide +kernel
theorem g114_0 : m_get 114 0 = some (.iload_n 1, 1) := by decide +kernel
theorem g114_1 : m_get 114 1 = some (.iload_n 1, 1) := by decide +kernel
theorem g114_2 : m_get 114 2 = some (.iconst 4, 1) := by decide +kernel
theorem g114_3 : m_get 114 3 = some (.irem, 1) := by decide +kernel
theorem g114_4 : m_get 114 4 = some (.isub, 1) := by decide +kernel
theorem g114_5 : m_get 114 5 = some (.istore_n 2, 1) := by decide +kernel
theorem g114_6 : m_get 114 6 = some (.iload_n 2, 1) := by decide +kernel
theorem g114_7 : m_get 114 7 = some (.iload_n 1, 1) := by decide +kernel
theorem g114_8 : m_get 114 8 = some (.if_icmp .ge 59, 3) := by decide +kernel
theorem g114_11 : m_get 114 11 = some (.iconst 1, 1) := by decide +kernel
theorem g114_12 : m_get 114 12 = some (.istore_n 3, 1) := by decide +kernel
theorem g114_13 : m_get 114 13 = some (.iconst 0, 1) := by decide +kernel
theorem g114_14 : m_get 114 14 = some (.istore 4, 2) := by decide +kernel
theorem g114_16 : m_get 114 16 = some (.iload 4, 2) := by decide +kernel
theorem g114_18 : m_get 114 18 = some (.iconst 4, 1) := by decide +kernel
theorem g114_19 : m_get 114 19 = some (.if_icmp .ge 36, 3) := by decide +kernel
theorem g114_22 : m_get 114 22 = some (.iload_n 3, 1) := by decide +kernel
theorem g114_23 : m_get 114 23 = some (.ifCond .eq 24, 3) := by decide +kernel
theorem g114_26 : m_get 114 26 = some (.aload_n 0, 1) := by decide +kernel
theorem g114_27 : m_get 114 27 = some (.iload_n 2, 1) := by decide +kernel
theorem g114_28 : m_get 114 28 = some (.iload 4, 2) := by decide +kernel
theorem g114_30 : m_get 114 30 = some (.invokevirtual 119, 3) := by decide +kernel
theorem g114_33 : m_get 114 33 = some (.aload_n 0, 1) := by decide +kernel
theorem g114_34 : m_get 114 34 = some (.iload_n 1, 1) := by decide +kernel
theorem g114_35 : m_get 114 35 = some (.iload 4, 2) := by decide +kernel
theorem g114_37 : m_get 114 37 = some (.invokevirtual 119, 3) := by decide +kernel
theorem g114_40 : m_get 114 40 = some (.if_icmp .ne 7, 3) := by decide +kernel
theorem g114_43 : m_get 114 43 = some (.iconst 1, 1) := by decide +kernel
theorem g114_44 : m_get 114 44 = some (.goto 4, 3) := by decide +kernel
theorem g114_47 : m_get 114 47 = some (.iconst 0, 1) := by decide +kernel
theorem g114_48 : m_get 114 48 = some (.istore_n 3, 1) := by decide +kernel
theorem g114_49 : m_get 114 49 = some (.iinc 4 1, 3) := by decide +kernel
theorem g114_52 : m_get 114 52 = some (.goto (-36), 3) := by decide +kernel
theorem g114_55 : m_get 114 55 = some (.iload_n 3, 1) := by decide +kernel
theorem g114_56 : m_get 114 56 = some (.ifCond .eq 5, 3) := by decide +kernel
theorem g114_59 : m_get 114 59 = some (.iconst 0, 1) := by decide +kernel
theorem g114_60 : m_get 114 60 = some (.ireturn, 1) := by decide +kernel
theorem g114_61 : m_get 114 61 = some (.iinc 2 1, 3) := by decide +kernel
theorem g114_64 : m_get 114 64 = some (.goto (-58), 3) := by decide +kernel
theorem g114_67 : m_get 114 67 = some (.iconst 1, 1) := by decide +kernel
theorem g114_68 : m_get 114 68 = some (.ireturn, 1) := by decide +kernel
theorem k114_119 : m_ml (m_own 114) 119 = some (0, 113) := by decide +kernel
theorem g115_0 : m_get 115 0 = some (.aload_n 0, 1) := by decide +kernel
theorem g115_1 : m_get 115 1 = some (.getfield 13, 3) := by decide +kernel
theorem g115_4 : m_get 115 4 = some (.iconst 5, 1) := by decide +kernel
theorem g115_5 : m_get 115 5 = some (.iload_n 1, 1) := by decide +kernel
theorem g115_6 : m_get 115 6 = some (.imul, 1) := by decide +kernel
theorem g115_7 : m_get 115 7 = some (.iconst 4, 1) := by decide +kernel
theorem g115_8 : m_get 115 8 = some (.iadd, 1) := by decide +kernel
theorem g115_9 : m_get 115 9 = some (.iaload, 1) := by decide +kernel
theorem g115_10 : m_get 115 10 = some (.ireturn, 1) := by decide +kernel
theorem f115_13 : m_fl (m_own 115) 13 = some (7, 2) := by decide +kernel
theorem g116_0 : m_get 116 0 = some (.iconst 0, 1) := by decide +kernel
theorem g116_1 : m_get 116 1 = some (.istore_n 1, 1) := by decide +kernel
theorem g116_2 : m_get 116 2 = some (.iload_n 1, 1) := by decide +kernel
theorem g116_3 : m_get 116 3 = some (.bipush 15, 2) := by decide +kernel
theorem g116_5 : m_get 116 5 = some (.if_icmp .ge 21, 3) := by decide +kernel
theorem g116_8 : m_get 116 8 = some (.aload_n 0, 1) := by decide +kernel
theorem g116_9 : m_get 116 9 = some (.getfield 41, 3) := by decide +kernel
theorem g116_12 : m_get 116 12 = some (.iload_n 1, 1) := by decide +kernel
theorem g116_13 : m_get 116 13 = some (.aload_n 0, 1) := by decide +kernel
theorem g116_14 : m_get 116 14 = some (.getfield 16, 3) := by decide +kernel
theorem g116_17 : m_get 116 17 = some (.iload_n 1, 1) := by decide +kernel
theorem g116_18 : m_get 116 18 = some (.iaload, 1) := by decide +kernel
theorem g116_19 : m_get 116 19 = some (.iastore, 1) := by decide +kernel
theorem g116_20 : m_get 116 20 = some (.iinc 1 1, 3) := by decide +kernel
theorem g116_23 : m_get 116 23 = some (.goto (-21), 3) := by decide +kernel
theorem g116_26 : m_get 116 26 = some (.return_, 1) := by decide +kernel
theorem f116_16 : m_fl (m_own 116) 16 = some (7, 3) := by decide +kernel
theorem f116_41 : m_fl (m_own 116) 41 = some (7, 17) := by decide +kernel
theorem g117_0 : m_get 117 0 = some (.aload_n 0, 1) := by decide +kernel
theorem g117_1 : m_get 117 1 = some (.getfield 41, 3) := by decide +kernel
theorem g117_4 : m_get 117 4 = some (.bipush 9, 2) := by decide +kernel
theorem g117_6 : m_get 117 6 = some (.iload_n 1, 1) := by decide +kernel
theorem g117_7 : m_get 117 7 = some (.iadd, 1) := by decide +kernel
theorem g117_8 : m_get 117 8 = some (.iaload, 1) := by decide +kernel
theorem g117_9 : m_get 117 9 = some (.istore_n 2, 1) := by decide +kernel
theorem g117_10 : m_get 117 10 = some (.iconst 0, 1) := by decide +kernel
theorem g117_11 : m_get 117 11 = some (.istore_n 3, 1) := by decide +kernel
theorem g117_12 : m_get 117 12 = some (.iload_n 3, 1) := by decide +kernel
theorem g117_13 : m_get 117 13 = some (.bipush 9, 2) := by decide +kernel
theorem g117_15 : m_get 117 15 = some (.if_icmp .ge 40, 3) := by decide +kernel
theorem g117_18 : m_get 117 18 = some (.iload_n 2, 1) := by decide +kernel
theorem g117_19 : m_get 117 19 = some (.aload_n 0, 1) := by decide +kernel
theorem g117_20 : m_get 117 20 = some (.getfield 41, 3) := by decide +kernel
theorem g117_23 : m_get 117 23 = some (.iload_n 3, 1) := by decide +kernel
theorem g117_24 : m_get 117 24 = some (.iaload, 1) := by decide +kernel
theorem g117_25 : m_get 117 25 = some (.bipush (-9), 2) := by decide +kernel
theorem g117_27 : m_get 117 27 = some (.if_icmp .eq 19, 3) := by decide +kernel
theorem g117_30 : m_get 117 30 = some (.aload_n 0, 1) := by decide +kernel
theorem g117_31 : m_get 117 31 = some (.getfield 41, 3) := by decide +kernel
theorem g117_34 : m_get 117 34 = some (.iload_n 3, 1) := by decide +kernel
theorem g117_35 : m_get 117 35 = some (.iaload, 1) := by decide +kernel
theorem g117_36 : m_get 117 36 = some (.iconst 4, 1) := by decide +kernel
theorem g117_37 : m_get 117 37 = some (.idiv, 1) := by decide +kernel
theorem g117_38 : m_get 117 38 = some (.iload_n 1, 1) := by decide +kernel
theorem g117_39 : m_get 117 39 = some (.if_icmp .ne 7, 3) := by decide +kernel
theorem g117_42 : m_get 117 42 = some (.iconst 1, 1) := by decide +kernel
theorem g117_43 : m_get 117 43 = some (.goto 4, 3) := by decide +kernel
theorem g117_46 : m_get 117 46 = some (.iconst 0, 1) := by decide +kernel
theorem g117_47 : m_get 117 47 = some (.isub, 1) := by decide +kernel
theorem g117_48 : m_get 117 48 = some (.istore_n 2, 1) := by decide +kernel
theorem g117_49 : m_get 117 49 = some (.iinc 3 1, 3) := by decide +kernel
theorem g117_52 : m_get 117 52 = some (.goto (-40), 3) := by decide +kernel
theorem g117_55 : m_get 117 55 = some (.iload_n 2, 1) := by decide +kernel
theorem g117_56 : m_get 117 56 = some (.ireturn, 1) := by decide +kernel
theorem f117_41 : m_fl (m_own 117) 41 = some (7, 17) := by decide +kernel
theorem g118_0 : m_get 118 0 = some (.iconst 0, 1) := by decide +kernel
theorem g118_1 : m_get 118 1 = some (.istore_n 2, 1) := by decide +kernel
theorem g118_2 : m_get 118 2 = some (.iconst 0, 1) := by decide +kernel
theorem g118_3 : m_get 118 3 = some (.istore_n 3, 1) := by decide +kernel
theorem g118_4 : m_get 118 4 = some (.iload_n 3, 1) := by decide +kernel
theorem g118_5 : m_get 118 5 = some (.bipush 9, 2) := by decide +kernel
theorem g118_7 : m_get 118 7 = some (.if_icmp .ge 44, 3) := by decide +kernel
theorem g118_10 : m_get 118 10 = some (.iload_n 2, 1) := by decide +kernel
theorem g118_11 : m_get 118 11 = some (.aload_n 0, 1) := by decide +kernel
theorem g118_12 : m_get 118 12 = some (.getfield 41, 3) := by decide +kernel
theorem g118_15 : m_get 118 15 = some (.iload_n 3, 1) := by decide +kernel
theorem g118_16 : m_get 118 16 = some (.iaload, 1) := by decide +kernel
theorem g118_17 : m_get 118 17 = some (.bipush (-9), 2) := by decide +kernel
theorem g118_19 : m_get 118 19 = some (.if_icmp .eq 23, 3) := by decide +kernel
theorem g118_22 : m_get 118 22 = some (.aload_n 0, 1) := by decide +kernel
theorem g118_23 : m_get 118 23 = some (.aload_n 0, 1) := by decide +kernel
theorem g118_24 : m_get 118 24 = some (.getfield 41, 3) := by decide +kernel
theorem g118_27 : m_get 118 27 = some (.iload_n 3, 1) := by decide +kernel
theorem g118_28 : m_get 118 28 = some (.iaload, 1) := by decide +kernel
theorem g118_29 : m_get 118 29 = some (.iconst 4, 1) := by decide +kernel
theorem g118_30 : m_get 118 30 = some (.idiv, 1) := by decide +kernel
theorem g118_31 : m_get 118 31 = some (.invokevirtual 123, 3) := by decide +kernel
theorem g118_34 : m_get 118 34 = some (.iload_n 1, 1) := by decide +kernel
theorem g118_35 : m_get 118 35 = some (.if_icmp .ne 7, 3) := by decide +kernel
theorem g118_38 : m_get 118 38 = some (.iconst 1, 1) := by decide +kernel
theorem g118_39 : m_get 118 39 = some (.goto 4, 3) := by decide +kernel
theorem g118_42 : m_get 118 42 = some (.iconst 0, 1) := by decide +kernel
theorem g118_43 : m_get 118 43 = some (.iadd, 1) := by decide +kernel
theorem g118_44 : m_get 118 44 = some (.istore_n 2, 1) := by decide +kernel
theorem g118_45 : m_get 118 45 = some (.iinc 3 1, 3) := by decide +kernel
theorem g118_48 : m_get 118 48 = some (.goto (-44), 3) := by decide +kernel
theorem g118_51 : m_get 118 51 = some (.iload_n 2, 1) := by decide +kernel
theorem g118_52 : m_get 118 52 = some (.ireturn, 1) := by decide +kernel
theorem f118_41 : m_fl (m_own 118) 41 = some (7, 17) := by decide +kernel
theorem k118_123 : m_ml (m_own 118) 123 = some (0, 115) := by decide +kernel
theorem g119_0 : m_get 119 0 = some (.iload_n 1, 1) := by decide +kernel
theorem g119_1 : m_get 119 1 = some (.aload_n 0, 1) := by decide +kernel
theorem g119_2 : m_get 119 2 = some (.getfield 7, 3) := by decide +kernel
theorem g119_5 : m_get 119 5 = some (.iconst 0, 1) := by decide +kernel
theorem g119_6 : m_get 119 6 = some (.iaload, 1) := by decide +kernel
theorem g119_7 : m_get 119 7 = some (.irem, 1) := by decide +kernel
theorem g119_8 : m_get 119 8 = some (.iload_n 2, 1) := by decide +kernel
theorem g119_9 : m_get 119 9 = some (.iconst 1, 1) := by decide +kernel
theorem g119_10 : m_get 119 10 = some (.if_icmp .ne 7, 3) := by decide +kernel
theorem g119_13 : m_get 119 13 = some (.iconst 1, 1) := by decide +kernel
theorem g119_14 : m_get 119 14 = some (.goto 13, 3) := by decide +kernel
theorem g119_17 : m_get 119 17 = some (.iload_n 2, 1) := by decide +kernel
theorem g119_18 : m_get 119 18 = some (.iconst 3, 1) := by decide +kernel
theorem g119_19 : m_get 119 19 = some (.if_icmp .ne 7, 3) := by decide +kernel
theorem g119_22 : m_get 119 22 = some (.iconst (-1), 1) := by decide +kernel
theorem g119_23 : m_get 119 23 = some (.goto 4, 3) := by decide +kernel
theorem g119_26 : m_get 119 26 = some (.iconst 0, 1) := by decide +kernel
theorem g119_27 : m_get 119 27 = some (.iadd, 1) := by decide +kernel
theorem g119_28 : m_get 119 28 = some (.istore_n 3, 1) := by decide +kernel
theorem g119_29 : m_get 119 29 = some (.iload_n 1, 1) := by decide +kernel
theorem g119_30 : m_get 119 30 = some (.aload_n 0, 1) := by decide +kernel
theorem g119_31 : m_get 119 31 = some (.getfield 7, 3) := by decide +kernel
theorem g119_34 : m_get 119 34 = some (.iconst 0, 1) := by decide +kernel
theorem g119_35 : m_get 119 35 = some (.iaload, 1) := by decide +kernel
theorem g119_36 : m_get 119 36 = some (.idiv, 1) := by decide +kernel
theorem g119_37 : m_get 119 37 = some (.iload_n 2, 1) := by decide +kernel
theorem g119_38 : m_get 119 38 = some (.ifCond .ne 7, 3) := by decide +kernel
theorem g119_41 : m_get 119 41 = some (.iconst (-1), 1) := by decide +kernel
theorem g119_42 : m_get 119 42 = some (.goto 13, 3) := by decide +kernel
theorem g119_45 : m_get 119 45 = some (.iload_n 2, 1) := by decide +kernel
theorem g119_46 : m_get 119 46 = some (.iconst 2, 1) := by decide +kernel
theorem g119_47 : m_get 119 47 = some (.if_icmp .ne 7, 3) := by decide +kernel
theorem g119_50 : m_get 119 50 = some (.iconst 1, 1) := by decide +kernel
theorem g119_51 : m_get 119 51 = some (.goto 4, 3) := by decide +kernel
theorem g119_54 : m_get 119 54 = some (.iconst 0, 1) := by decide +kernel
theorem g119_55 : m_get 119 55 = some (.iadd, 1) := by decide +kernel
theorem g119_56 : m_get 119 56 = some (.istore 4, 2) := by decide +kernel
theorem g119_58 : m_get 119 58 = some (.iload_n 3, 1) := by decide +kernel
theorem g119_59 : m_get 119 59 = some (.iconst 0, 1) := by decide +kernel
theorem g119_60 : m_get 119 60 = some (.aload_n 0, 1) := by decide +kernel
theorem g119_61 : m_get 119 61 = some (.getfield 7, 3) := by decide +kernel
theorem g119_64 : m_get 119 64 = some (.iconst 0, 1) := by decide +kernel
theorem g119_65 : m_get 119 65 = some (.iaload, 1) := by decide +kernel
theorem g119_66 : m_get 119 66 = some (.iconst 1, 1) := by decide +kernel
theorem g119_67 : m_get 119 67 = some (.isub, 1) := by decide +kernel
theorem g119_68 : m_get 119 68 = some (.invokestatic 81, 3) := by decide +kernel
theorem g119_71 : m_get 119 71 = some (.ifCond .eq 34, 3) := by decide +kernel
theorem g119_74 : m_get 119 74 = some (.iload 4, 2) := by decide +kernel
theorem g119_76 : m_get 119 76 = some (.iconst 0, 1) := by decide +kernel
theorem g119_77 : m_get 119 77 = some (.aload_n 0, 1) := by decide +kernel
theorem g119_78 : m_get 119 78 = some (.getfield 7, 3) := by decide +kernel
theorem g119_81 : m_get 119 81 = some (.iconst 1, 1) := by decide +kernel
theorem g119_82 : m_get 119 82 = some (.iaload, 1) := by decide +kernel
theorem g119_83 : m_get 119 83 = some (.iconst 1, 1) := by decide +kernel
theorem g119_84 : m_get 119 84 = some (.isub, 1) := by decide +kernel
theorem g119_85 : m_get 119 85 = some (.invokestatic 81, 3) := by decide +kernel
theorem g119_88 : m_get 119 88 = some (.ifCond .eq 17, 3) := by decide +kernel
theorem g119_91 : m_get 119 91 = some (.aload_n 0, 1) := by decide +kernel
theorem g119_92 : m_get 119 92 = some (.getfield 7, 3) := by decide +kernel
theorem g119_95 : m_get 119 95 = some (.iconst 0, 1) := by decide +kernel
theorem g119_96 : m_get 119 96 = some (.iaload, 1) := by decide +kernel
theorem g119_97 : m_get 119 97 = some (.iload 4, 2) := by decide +kernel
theorem g119_99 : m_get 119 99 = some (.imul, 1) := by decide +kernel
theorem g119_100 : m_get 119 100 = some (.iload_n 3, 1) := by decide +kernel
theorem g119_101 : m_get 119 101 = some (.iadd, 1) := by decide +kernel
theorem g119_102 : m_get 119 102 = some (.goto 5, 3) := by decide +kernel
theorem g119_105 : m_get 119 105 = some (.bipush (-9), 2) := by decide +kernel
theorem g119_107 : m_get 119 107 = some (.ireturn, 1) := by decide +kernel
theorem f119_7 : m_fl (m_own 119) 7 = some (7, 1) := by decide +kernel
theorem k119_81 : m_ml (m_own 119) 81 = some (1, 97) := by decide +kernel
theorem g120_0 : m_get 120 0 = some (.aload_n 0, 1) := by decide +kernel
theorem g120_1 : m_get 120 1 = some (.iload_n 2, 1) := by decide +kernel
theorem g120_2 : m_get 120 2 = some (.iconst 4, 1) := by decide +kernel
theorem g120_3 : m_get 120 3 = some (.idiv, 1) := by decide +kernel
theorem g120_4 : m_get 120 4 = some (.invokevirtual 127, 3) := by decide +kernel
theorem g120_7 : m_get 120 7 = some (.ifCond .gt 5, 3) := by decide +kernel
theorem g120_10 : m_get 120 10 = some (.iconst 1, 1) := by decide +kernel
theorem g120_11 : m_get 120 11 = some (.ireturn, 1) := by decide +kernel
theorem g120_12 : m_get 120 12 = some (.iconst 1, 1) := by decide +kernel
theorem g120_13 : m_get 120 13 = some (.istore_n 3, 1) := by decide +kernel
theorem g120_14 : m_get 120 14 = some (.iconst 0, 1) := by decide +kernel
theorem g120_15 : m_get 120 15 = some (.istore 4, 2) := by decide +kernel
theorem g120_17 : m_get 120 17 = some (.iload 4, 2) := by decide +kernel
theorem g120_19 : m_get 120 19 = some (.iconst 4, 1) := by decide +kernel
theorem g120_20 : m_get 120 20 = some (.if_icmp .ge 110, 3) := by decide +kernel
theorem g120_23 : m_get 120 23 = some (.aload_n 0, 1) := by decide +kernel
theorem g120_24 : m_get 120 24 = some (.iload_n 1, 1) := by decide +kernel
theorem g120_25 : m_get 120 25 = some (.iload 4, 2) := by decide +kernel
theorem g120_27 : m_get 120 27 = some (.invokevirtual 130, 3) := by decide +kernel
theorem g120_30 : m_get 120 30 = some (.istore 5, 2) := by decide +kernel
theorem g120_32 : m_get 120 32 = some (.iload 5, 2) := by decide +kernel
theorem g120_34 : m_get 120 34 = some (.bipush (-9), 2) := by decide +kernel
theorem g120_36 : m_get 120 36 = some (.if_icmp .eq 44, 3) := by decide +kernel
theorem g120_39 : m_get 120 39 = some (.aload_n 0, 1) := by decide +kernel
theorem g120_40 : m_get 120 40 = some (.getfield 41, 3) := by decide +kernel
theorem g120_43 : m_get 120 43 = some (.iload 5, 2) := by decide +kernel
theorem g120_45 : m_get 120 45 = some (.iaload, 1) := by decide +kernel
theorem g120_46 : m_get 120 46 = some (.bipush (-9), 2) := by decide +kernel
theorem g120_48 : m_get 120 48 = some (.if_icmp .eq 32, 3) := by decide +kernel
theorem g120_51 : m_get 120 51 = some (.aload_n 0, 1) := by decide +kernel
theorem g120_52 : m_get 120 52 = some (.aload_n 0, 1) := by decide +kernel
theorem g120_53 : m_get 120 53 = some (.getfield 41, 3) := by decide +kernel
theorem g120_56 : m_get 120 56 = some (.iload 5, 2) := by decide +kernel
theorem g120_58 : m_get 120 58 = some (.iaload, 1) := by decide +kernel
theorem g120_59 : m_get 120 59 = some (.iload 4, 2) := by decide +kernel
theorem g120_61 : m_get 120 61 = some (.iconst 2, 1) := by decide +kernel
theorem g120_62 : m_get 120 62 = some (.iadd, 1) := by decide +kernel
theorem g120_63 : m_get 120 63 = some (.iconst 4, 1) := by decide +kernel
theorem g120_64 : m_get 120 64 = some (.irem, 1) := by decide +kernel
theorem g120_65 : m_get 120 65 = some (.invokevirtual 119, 3) := by decide +kernel
theorem g120_68 : m_get 120 68 = some (.aload_n 0, 1) := by decide +kernel
theorem g120_69 : m_get 120 69 = some (.iload_n 2, 1) := by decide +kernel
theorem g120_70 : m_get 120 70 = some (.iload 4, 2) := by decide +kernel
theorem g120_72 : m_get 120 72 = some (.invokevirtual 119, 3) := by decide +kernel
theorem g120_75 : m_get 120 75 = some (.if_icmp .eq 5, 3) := by decide +kernel
theorem g120_78 : m_get 120 78 = some (.iconst 2, 1) := by decide +kernel
theorem g120_79 : m_get 120 79 = some (.ireturn, 1) := by decide +kernel
theorem g120_80 : m_get 120 80 = some (.iload_n 3, 1) := by decide +kernel
theorem g120_81 : m_get 120 81 = some (.ifCond .eq 41, 3) := by decide +kernel
theorem g120_84 : m_get 120 84 = some (.iload 5, 2) := by decide +kernel
theorem g120_86 : m_get 120 86 = some (.bipush (-9), 2) := by decide +kernel
theorem g120_88 : m_get 120 88 = some (.if_icmp .ne 30, 3) := by decide +kernel
theorem g120_91 : m_get 120 91 = some (.aload_n 0, 1) := by decide +kernel
theorem g120_92 : m_get 120 92 = some (.getfield 7, 3) := by decide +kernel
theorem g120_95 : m_get 120 95 = some (.iconst 2, 1) := by decide +kernel
theorem g120_96 : m_get 120 96 = some (.iaload, 1) := by decide +kernel
theorem g120_97 : m_get 120 97 = some (.bipush (-9), 2) := by decide +kernel
theorem g120_99 : m_get 120 99 = some (.if_icmp .eq 19, 3) := by decide +kernel
theorem g120_102 : m_get 120 102 = some (.aload_n 0, 1) := by decide +kernel
theorem g120_103 : m_get 120 103 = some (.iload_n 2, 1) := by decide +kernel
theorem g120_104 : m_get 120 104 = some (.iload 4, 2) := by decide +kernel
theorem g120_106 : m_get 120 106 = some (.invokevirtual 119, 3) := by decide +kernel
theorem g120_109 : m_get 120 109 = some (.aload_n 0, 1) := by decide +kernel
theorem g120_110 : m_get 120 110 = some (.getfield 7, 3) := by decide +kernel
theorem g120_113 : m_get 120 113 = some (.iconst 2, 1) := by decide +kernel
theorem g120_114 : m_get 120 114 = some (.iaload, 1) := by decide +kernel
theorem g120_115 : m_get 120 115 = some (.if_icmp .ne 7, 3) := by decide +kernel
theorem g120_118 : m_get 120 118 = some (.iconst 1, 1) := by decide +kernel
theorem g120_119 : m_get 120 119 = some (.goto 4, 3) := by decide +kernel
theorem g120_122 : m_get 120 122 = some (.iconst 0, 1) := by decide +kernel
theorem g120_123 : m_get 120 123 = some (.istore_n 3, 1) := by decide +kernel
theorem g120_124 : m_get 120 124 = some (.iinc 4 1, 3) := by decide +kernel
theorem g120_127 : m_get 120 127 = some (.goto (-110), 3) := by decide +kernel
theorem g120_130 : m_get 120 130 = some (.iload_n 3, 1) := by decide +kernel
theorem g120_131 : m_get 120 131 = some (.ifCond .ne 7, 3) := by decide +kernel
theorem g120_134 : m_get 120 134 = some (.iconst 3, 1) := by decide +kernel
theorem g120_135 : m_get 120 135 = some (.goto 28, 3) := by decide +kernel
theorem g120_138 : m_get 120 138 = some (.aload_n 0, 1) := by decide +kernel
theorem g120_139 : m_get 120 139 = some (.aload_n 0, 1) := by decide +kernel
theorem g120_140 : m_get 120 140 = some (.iload_n 2, 1) := by decide +kernel
theorem g120_141 : m_get 120 141 = some (.iconst 4, 1) := by decide +kernel
theorem g120_142 : m_get 120 142 = some (.idiv, 1) := by decide +kernel
theorem g120_143 : m_get 120 143 = some (.invokevirtual 123, 3) := by decide +kernel
theorem g120_146 : m_get 120 146 = some (.invokevirtual 133, 3) := by decide +kernel
theorem g120_149 : m_get 120 149 = some (.aload_n 0, 1) := by decide +kernel
theorem g120_150 : m_get 120 150 = some (.getfield 7, 3) := by decide +kernel
theorem g120_153 : m_get 120 153 = some (.iconst 3, 1) := by decide +kernel
theorem g120_154 : m_get 120 154 = some (.iaload, 1) := by decide +kernel
theorem g120_155 : m_get 120 155 = some (.if_icmp .lt 7, 3) := by decide +kernel
theorem g120_158 : m_get 120 158 = some (.iconst 4, 1) := by decide +kernel
theorem g120_159 : m_get 120 159 = some (.goto 4, 3) := by decide +kernel
theorem g120_162 : m_get 120 162 = some (.iconst 0, 1) := by decide +kernel
theorem g120_163 : m_get 120 163 = some (.ireturn, 1) := by decide +kernel
theorem f120_7 : m_fl (m_own 120) 7 = some (7, 1) := by decide +kernel
theorem f120_41 : m_fl (m_own 120) 41 = some (7, 17) := by decide +kernel
theorem k120_119 : m_ml (m_own 120) 119 = some (0, 113) := by decide +kernel
theorem k120_123 : m_ml (m_own 120) 123 = some (0, 115) := by decide +kernel
theorem k120_127 : m_ml (m_own 120) 127 = some (0, 117) := by decide +kernel
theorem k120_130 : m_ml (m_own 120) 130 = some (0, 119) := by decide +kernel
theorem k120_133 : m_ml (m_own 120) 133 = some (0, 118) := by decide +kernel
theorem g121_0 : m_get 121 0 = some (.aload_n 0, 1) := by decide +kernel
theorem g121_1 : m_get 121 1 = some (.iload_n 1, 1) := by decide +kernel
theorem g121_2 : m_get 121 2 = some (.invokevirtual 136, 3) := by decide +kernel
theorem g121_5 : m_get 121 5 = some (.ifCond .eq 13, 3) := by decide +kernel
theorem g121_8 : m_get 121 8 = some (.iload_n 2, 1) := by decide +kernel
theorem g121_9 : m_get 121 9 = some (.iconst 0, 1) := by decide +kernel
theorem g121_10 : m_get 121 10 = some (.bipush 6, 2) := by decide +kernel
theorem g121_12 : m_get 121 12 = some (.invokestatic 81, 3) := by decide +kernel
theorem g121_15 : m_get 121 15 = some (.ifCond .ne 5, 3) := by decide +kernel
theorem g121_18 : m_get 121 18 = some (.iconst (-1), 1) := by decide +kernel
theorem g121_19 : m_get 121 19 = some (.ireturn, 1) := by decide +kernel
theorem g121_20 : m_get 121 20 = some (.aload_n 0, 1) := by decide +kernel
theorem g121_21 : m_get 121 21 = some (.invokevirtual 140, 3) := by decide +kernel
theorem g121_24 : m_get 121 24 = some (.iload_n 2, 1) := by decide +kernel
theorem g121_25 : m_get 121 25 = some (.iconst 5, 1) := by decide +kernel
theorem g121_26 : m_get 121 26 = some (.if_icmp .ge 16, 3) := by decide +kernel
theorem g121_29 : m_get 121 29 = some (.aload_n 0, 1) := by decide +kernel
theorem g121_30 : m_get 121 30 = some (.getfield 13, 3) := by decide +kernel
theorem g121_33 : m_get 121 33 = some (.iconst 5, 1) := by decide +kernel
theorem g121_34 : m_get 121 34 = some (.iload_n 1, 1) := by decide +kernel
theorem g121_35 : m_get 121 35 = some (.imul, 1) := by decide +kernel
theorem g121_36 : m_get 121 36 = some (.iload_n 2, 1) := by decide +kernel
theorem g121_37 : m_get 121 37 = some (.iadd, 1) := by decide +kernel
theorem g121_38 : m_get 121 38 = some (.iaload, 1) := by decide +kernel
theorem g121_39 : m_get 121 39 = some (.goto 28, 3) := by decide +kernel
theorem g121_42 : m_get 121 42 = some (.iload_n 2, 1) := by decide +kernel
theorem g121_43 : m_get 121 43 = some (.iconst 5, 1) := by decide +kernel
theorem g121_44 : m_get 121 44 = some (.if_icmp .ne 15, 3) := by decide +kernel
theorem g121_47 : m_get 121 47 = some (.aload_n 0, 1) := by decide +kernel
theorem g121_48 : m_get 121 48 = some (.getfield 16, 3) := by decide +kernel
theorem g121_51 : m_get 121 51 = some (.bipush 9, 2) := by decide +kernel
theorem g121_53 : m_get 121 53 = some (.iload_n 1, 1) := by decide +kernel
theorem g121_54 : m_get 121 54 = some (.iadd, 1) := by decide +kernel
theorem g121_55 : m_get 121 55 = some (.iaload, 1) := by decide +kernel
theorem g121_56 : m_get 121 56 = some (.goto 11, 3) := by decide +kernel
theorem g121_59 : m_get 121 59 = some (.aload_n 0, 1) := by decide +kernel
theorem g121_60 : m_get 121 60 = some (.iload_n 1, 1) := by decide +kernel
theorem g121_61 : m_get 121 61 = some (.invokevirtual 127, 3) := by decide +kernel
theorem g121_64 : m_get 121 64 = some (.bipush 100, 2) := by decide +kernel
theorem g121_66 : m_get 121 66 = some (.iadd, 1) := by decide +kernel
theorem g121_67 : m_get 121 67 = some (.ireturn, 1) := by decide +kernel
theorem f121_13 : m_fl (m_own 121) 13 = some (7, 2) := by decide +kernel
theorem f121_16 : m_fl (m_own 121) 16 = some (7, 3) := by decide +kernel
theorem k121_81 : m_ml (m_own 121) 81 = some (1, 97) := by decide +kernel
theorem k121_127 : m_ml (m_own 121) 127 = some (0, 117) := by decide +kernel
theorem k121_136 : m_ml (m_own 121) 136 = some (0, 109) := by decide +kernel
theorem k121_140 : m_ml (m_own 121) 140 = some (0, 116) := by decide +kernel
theorem g122_0 : m_get 122 0 = some (.aload_n 0, 1) := by decide +kernel
theorem g122_1 : m_get 122 1 = some (.iload_n 1, 1) := by decide +kernel
theorem g122_2 : m_get 122 2 = some (.invokevirtual 143, 3) := by decide +kernel
theorem g122_5 : m_get 122 5 = some (.ifCond .eq 12, 3) := by decide +kernel
theorem g122_8 : m_get 122 8 = some (.iload_n 2, 1) := by decide +kernel
theorem g122_9 : m_get 122 9 = some (.iconst 0, 1) := by decide +kernel
theorem g122_10 : m_get 122 10 = some (.iconst 4, 1) := by decide +kernel
theorem g122_11 : m_get 122 11 = some (.invokestatic 81, 3) := by decide +kernel
theorem g122_14 : m_get 122 14 = some (.ifCond .ne 5, 3) := by decide +kernel
theorem g122_17 : m_get 122 17 = some (.iconst (-1), 1) := by decide +kernel
theorem g122_18 : m_get 122 18 = some (.ireturn, 1) := by decide +kernel
theorem g122_19 : m_get 122 19 = some (.iload_n 2, 1) := by decide +kernel
theorem g122_20 : m_get 122 20 = some (.iconst 4, 1) := by decide +kernel
theorem g122_21 : m_get 122 21 = some (.if_icmp .ge 12, 3) := by decide +kernel
theorem g122_24 : m_get 122 24 = some (.aload_n 0, 1) := by decide +kernel
theorem g122_25 : m_get 122 25 = some (.iload_n 1, 1) := by decide +kernel
theorem g122_26 : m_get 122 26 = some (.iload_n 2, 1) := by decide +kernel
theorem g122_27 : m_get 122 27 = some (.invokevirtual 119, 3) := by decide +kernel
theorem g122_30 : m_get 122 30 = some (.goto 16, 3) := by decide +kernel
theorem g122_33 : m_get 122 33 = some (.aload_n 0, 1) := by decide +kernel
theorem g122_34 : m_get 122 34 = some (.iload_n 1, 1) := by decide +kernel
theorem g122_35 : m_get 122 35 = some (.invokevirtual 146, 3) := by decide +kernel
theorem g122_38 : m_get 122 38 = some (.ifCond .eq 7, 3) := by decide +kernel
theorem g122_41 : m_get 122 41 = some (.iconst 1, 1) := by decide +kernel
theorem g122_42 : m_get 122 42 = some (.goto 4, 3) := by decide +kernel
theorem g122_45 : m_get 122 45 = some (.iconst 0, 1) := by decide +kernel
theorem g122_46 : m_get 122 46 = some (.ireturn, 1) := by decide +kernel
theorem k122_81 : m_ml (m_own 122) 81 = some (1, 97) := by decide +kernel
theorem k122_119 : m_ml (m_own 122) 119 = some (0, 113) := by decide +kernel
theorem k122_143 : m_ml (m_own 122) 143 = some (0, 110) := by decide +kernel
theorem k122_146 : m_ml (m_own 122) 146 = some (0, 114) := by decide +kernel
theorem g123_0 : m_get 123 0 = some (.iconst 0, 1) := by decide +kernel
theorem g123_1 : m_get 123 1 = some (.istore_n 1, 1) := by decide +kernel
theorem g123_2 : m_get 123 2 = some (.iconst 0, 1) := by decide +kernel
theorem g123_3 : m_get 123 3 = some (.istore_n 2, 1) := by decide +kernel
theorem g123_4 : m_get 123 4 = some (.iload_n 2, 1) := by decide +kernel
theorem g123_5 : m_get 123 5 = some (.aload_n 0, 1) := by decide +kernel
theorem g123_6 : m_get 123 6 = some (.invokevirtual 116, 3) := by decide +kernel
theorem g123_9 : m_get 123 9 = some (.if_icmp .ge 28, 3) := by decide +kernel
theorem g123_12 : m_get 123 12 = some (.iload_n 1, 1) := by decide +kernel
theorem g123_13 : m_get 123 13 = some (.aload_n 0, 1) := by decide +kernel
theorem g123_14 : m_get 123 14 = some (.getfield 16, 3) := by decide +kernel
theorem g123_17 : m_get 123 17 = some (.iload_n 2, 1) := by decide +kernel
theorem g123_18 : m_get 123 18 = some (.iaload, 1) := by decide +kernel
theorem g123_19 : m_get 123 19 = some (.bipush (-9), 2) := by decide +kernel
theorem g123_21 : m_get 123 21 = some (.if_icmp .ne 7, 3) := by decide +kernel
theorem g123_24 : m_get 123 24 = some (.iconst 1, 1) := by decide +kernel
theorem g123_25 : m_get 123 25 = some (.goto 4, 3) := by decide +kernel
theorem g123_28 : m_get 123 28 = some (.iconst 0, 1) := by decide +kernel
theorem g123_29 : m_get 123 29 = some (.iadd, 1) := by decide +kernel
theorem g123_30 : m_get 123 30 = some (.istore_n 1, 1) := by decide +kernel
theorem g123_31 : m_get 123 31 = some (.iinc 2 1, 3) := by decide +kernel
theorem g123_34 : m_get 123 34 = some (.goto (-30), 3) := by decide +kernel
theorem g123_37 : m_get 123 37 = some (.iload_n 1, 1) := by decide +kernel
theorem g123_38 : m_get 123 38 = some (.ireturn, 1) := by decide +kernel
theorem f123_16 : m_fl (m_own 123) 16 = some (7, 3) := by decide +kernel
theorem k123_116 : m_ml (m_own 123) 116 = some (0, 111) := by decide +kernel
theorem g124_0 : m_get 124 0 = some (.aload_n 0, 1) := by decide +kernel
theorem g124_1 : m_get 124 1 = some (.getfield 78, 3) := by decide +kernel
theorem g124_4 : m_get 124 4 = some (.bipush 10, 2) := by decide +kernel
theorem g124_6 : m_get 124 6 = some (.if_icmp .ne 43, 3) := by decide +kernel
theorem g124_9 : m_get 124 9 = some (.iconst 0, 1) := by decide +kernel
theorem g124_10 : m_get 124 10 = some (.istore_n 1, 1) := by decide +kernel
theorem g124_11 : m_get 124 11 = some (.iload_n 1, 1) := by decide +kernel
theorem g124_12 : m_get 124 12 = some (.sipush 135, 3) := by decide +kernel
theorem g124_15 : m_get 124 15 = some (.if_icmp .ge 24, 3) := by decide +kernel
theorem g124_18 : m_get 124 18 = some (.aload_n 0, 1) := by decide +kernel
theorem g124_19 : m_get 124 19 = some (.getfield 19, 3) := by decide +kernel
theorem g124_22 : m_get 124 22 = some (.iload_n 1, 1) := by decide +kernel
theorem g124_23 : m_get 124 23 = some (.aload_n 0, 1) := by decide +kernel
theorem g124_24 : m_get 124 24 = some (.getfield 19, 3) := by decide +kernel
theorem g124_27 : m_get 124 27 = some (.iload_n 1, 1) := by decide +kernel
theorem g124_28 : m_get 124 28 = some (.bipush 15, 2) := by decide +kernel
theorem g124_30 : m_get 124 30 = some (.iadd, 1) := by decide +kernel
theorem g124_31 : m_get 124 31 = some (.iaload, 1) := by decide +kernel
theorem g124_32 : m_get 124 32 = some (.iastore, 1) := by decide +kernel
theorem g124_33 : m_get 124 33 = some (.iinc 1 1, 3) := by decide +kernel
theorem g124_36 : m_get 124 36 = some (.goto (-25), 3) := by decide +kernel
theorem g124_39 : m_get 124 39 = some (.aload_n 0, 1) := by decide +kernel
theorem g124_40 : m_get 124 40 = some (.dup, 1) := by decide +kernel
theorem g124_41 : m_get 124 41 = some (.getfield 78, 3) := by decide +kernel
theorem g124_44 : m_get 124 44 = some (.iconst 1, 1) := by decide +kernel
theorem g124_45 : m_get 124 45 = some (.isub, 1) := by decide +kernel
theorem g124_46 : m_get 124 46 = some (.putfield 78, 3) := by decide +kernel
theorem g124_49 : m_get 124 49 = some (.iconst 0, 1) := by decide +kernel
theorem g124_50 : m_get 124 50 = some (.istore_n 1, 1) := by decide +kernel
theorem g124_51 : m_get 124 51 = some (.iload_n 1, 1) := by decide +kernel
theorem g124_52 : m_get 124 52 = some (.bipush 15, 2) := by decide +kernel
theorem g124_54 : m_get 124 54 = some (.if_icmp .ge 29, 3) := by decide +kernel
theorem g124_57 : m_get 124 57 = some (.aload_n 0, 1) := by decide +kernel
theorem g124_58 : m_get 124 58 = some (.getfield 19, 3) := by decide +kernel
theorem g124_61 : m_get 124 61 = some (.bipush 15, 2) := by decide +kernel
theorem g124_63 : m_get 124 63 = some (.aload_n 0, 1) := by decide +kernel
theorem g124_64 : m_get 124 64 = some (.getfield 78, 3) := by decide +kernel
theorem g124_67 : m_get 124 67 = some (.imul, 1) := by decide +kernel
theorem g124_68 : m_get 124 68 = some (.iload_n 1, 1) := by decide +kernel
theorem g124_69 : m_get 124 69 = some (.iadd, 1) := by decide +kernel
theorem g124_70 : m_get 124 70 = some (.aload_n 0, 1) := by decide +kernel
theorem g124_71 : m_get 124 71 = some (.getfield 16, 3) := by decide +kernel
theorem g124_74 : m_get 124 74 = some (.iload_n 1, 1) := by decide +kernel
theorem g124_75 : m_get 124 75 = some (.iaload, 1) := by decide +kernel
theorem g124_76 : m_get 124 76 = some (.iastore, 1) := by decide +kernel
theorem g124_77 : m_get 124 77 = some (.iinc 1 1, 3) := by decide +kernel
theorem g124_80 : m_get 124 80 = some (.goto (-29), 3) := by decide +kernel
theorem g124_83 : m_get 124 83 = some (.aload_n 0, 1) := by decide +kernel
theorem g124_84 : m_get 124 84 = some (.dup, 1) := by decide +kernel
theorem g124_85 : m_get 124 85 = some (.getfield 78, 3) := by decide +kernel
theorem g124_88 : m_get 124 88 = some (.iconst 1, 1) := by decide +kernel
theorem g124_89 : m_get 124 89 = some (.iadd, 1) := by decide +kernel
theorem g124_90 : m_get 124 90 = some (.putfield 78, 3) := by decide +kernel
theorem g124_93 : m_get 124 93 = some (.return_, 1) := by decide +kernel
theorem f124_16 : m_fl (m_own 124) 16 = some (7, 3) := by decide +kernel
theorem f124_19 : m_fl (m_own 124) 19 = some (7, 5) := by decide +kernel
theorem f124_78 : m_fl (m_own 124) 78 = some (7, 4) := by decide +kernel
theorem g125_0 : m_get 125 0 = some (.aload_n 0, 1) := by decide +kernel
theorem g125_1 : m_get 125 1 = some (.iload_n 1, 1) := by decide +kernel
theorem g125_2 : m_get 125 2 = some (.invokevirtual 149, 3) := by decide +kernel
theorem g125_5 : m_get 125 5 = some (.ifCond .eq 11, 3) := by decide +kernel
theorem g125_8 : m_get 125 8 = some (.aload_n 0, 1) := by decide +kernel
theorem g125_9 : m_get 125 9 = some (.iload_n 2, 1) := by decide +kernel
theorem g125_10 : m_get 125 10 = some (.invokevirtual 143, 3) := by decide +kernel
theorem g125_13 : m_get 125 13 = some (.ifCond .ne 5, 3) := by decide +kernel
theorem g125_16 : m_get 125 16 = some (.iconst (-1), 1) := by decide +kernel
theorem g125_17 : m_get 125 17 = some (.ireturn, 1) := by decide +kernel
theorem g125_18 : m_get 125 18 = some (.aload_n 0, 1) := by decide +kernel
theorem g125_19 : m_get 125 19 = some (.getfield 16, 3) := by decide +kernel
theorem g125_22 : m_get 125 22 = some (.iload_n 1, 1) := by decide +kernel
theorem g125_23 : m_get 125 23 = some (.iaload, 1) := by decide +kernel
theorem g125_24 : m_get 125 24 = some (.bipush (-9), 2) := by decide +kernel
theorem g125_26 : m_get 125 26 = some (.if_icmp .eq 6, 3) := by decide +kernel
theorem g125_29 : m_get 125 29 = some (.bipush (-2), 2) := by decide +kernel
theorem g125_31 : m_get 125 31 = some (.ireturn, 1) := by decide +kernel
theorem g125_32 : m_get 125 32 = some (.aload_n 0, 1) := by decide +kernel
theorem g125_33 : m_get 125 33 = some (.invokevirtual 140, 3) := by decide +kernel
theorem g125_36 : m_get 125 36 = some (.aload_n 0, 1) := by decide +kernel
theorem g125_37 : m_get 125 37 = some (.iload_n 1, 1) := by decide +kernel
theorem g125_38 : m_get 125 38 = some (.iload_n 2, 1) := by decide +kernel
theorem g125_39 : m_get 125 39 = some (.invokevirtual 152, 3) := by decide +kernel
theorem g125_42 : m_get 125 42 = some (.istore_n 3, 1) := by decide +kernel
theorem g125_43 : m_get 125 43 = some (.iload_n 3, 1) := by decide +kernel
theorem g125_44 : m_get 125 44 = some (.ifCond .eq 8, 3) := by decide +kernel
theorem g125_47 : m_get 125 47 = some (.bipush (-10), 2) := by decide +kernel
theorem g125_49 : m_get 125 49 = some (.iload_n 3, 1) := by decide +kernel
theorem g125_50 : m_get 125 50 = some (.isub, 1) := by decide +kernel
theorem g125_51 : m_get 125 51 = some (.ireturn, 1) := by decide +kernel
theorem g125_52 : m_get 125 52 = some (.aload_n 0, 1) := by decide +kernel
theorem g125_53 : m_get 125 53 = some (.invokevirtual 155, 3) := by decide +kernel
theorem g125_56 : m_get 125 56 = some (.aload_n 0, 1) := by decide +kernel
theorem g125_57 : m_get 125 57 = some (.getfield 16, 3) := by decide +kernel
theorem g125_60 : m_get 125 60 = some (.iload_n 1, 1) := by decide +kernel
theorem g125_61 : m_get 125 61 = some (.iload_n 2, 1) := by decide +kernel
theorem g125_62 : m_get 125 62 = some (.iastore, 1) := by decide +kernel
theorem g125_63 : m_get 125 63 = some (.aload_n 0, 1) := by decide +kernel
theorem g125_64 : m_get 125 64 = some (.invokevirtual 158, 3) := by decide +kernel
theorem g125_67 : m_get 125 67 = some (.ireturn, 1) := by decide +kernel
theorem f125_16 : m_fl (m_own 125) 16 = some (7, 3) := by decide +kernel
theorem k125_140 : m_ml (m_own 125) 140 = some (0, 116) := by decide +kernel
theorem k125_143 : m_ml (m_own 125) 143 = some (0, 110) := by decide +kernel
theorem k125_149 : m_ml (m_own 125) 149 = some (0, 112) := by decide +kernel
theorem k125_152 : m_ml (m_own 125) 152 = some (0, 120) := by decide +kernel
theorem k125_155 : m_ml (m_own 125) 155 = some (0, 124) := by decide +kernel
theorem k125_158 : m_ml (m_own 125) 158 = some (0, 123) := by decide +kernel
theorem g126_0 : m_get 126 0 = some (.aload_n 0, 1) := by decide +kernel
theorem g126_1 : m_get 126 1 = some (.iload_n 1, 1) := by decide +kernel
theorem g126_2 : m_get 126 2 = some (.invokevirtual 149, 3) := by decide +kernel
theorem g126_5 : m_get 126 5 = some (.ifCond .ne 5, 3) := by decide +kernel
theorem g126_8 : m_get 126 8 = some (.iconst (-1), 1) := by decide +kernel
theorem g126_9 : m_get 126 9 = some (.ireturn, 1) := by decide +kernel
theorem g126_10 : m_get 126 10 = some (.aload_n 0, 1) := by decide +kernel
theorem g126_11 : m_get 126 11 = some (.getfield 16, 3) := by decide +kernel
theorem g126_14 : m_get 126 14 = some (.iload_n 1, 1) := by decide +kernel
theorem g126_15 : m_get 126 15 = some (.iaload, 1) := by decide +kernel
theorem g126_16 : m_get 126 16 = some (.istore_n 2, 1) := by decide +kernel
theorem g126_17 : m_get 126 17 = some (.iload_n 2, 1) := by decide +kernel
theorem g126_18 : m_get 126 18 = some (.bipush (-9), 2) := by decide +kernel
theorem g126_20 : m_get 126 20 = some (.if_icmp .ne 6, 3) := by decide +kernel
theorem g126_23 : m_get 126 23 = some (.bipush (-2), 2) := by decide +kernel
theorem g126_25 : m_get 126 25 = some (.ireturn, 1) := by decide +kernel
theorem g126_26 : m_get 126 26 = some (.aload_n 0, 1) := by decide +kernel
theorem g126_27 : m_get 126 27 = some (.invokevirtual 155, 3) := by decide +kernel
theorem g126_30 : m_get 126 30 = some (.aload_n 0, 1) := by decide +kernel
theorem g126_31 : m_get 126 31 = some (.getfield 16, 3) := by decide +kernel
theorem g126_34 : m_get 126 34 = some (.iload_n 1, 1) := by decide +kernel
theorem g126_35 : m_get 126 35 = some (.bipush (-9), 2) := by decide +kernel
theorem g126_37 : m_get 126 37 = some (.iastore, 1) := by decide +kernel
theorem g126_38 : m_get 126 38 = some (.iload_n 2, 1) := by decide +kernel
theorem g126_39 : m_get 126 39 = some (.ireturn, 1) := by decide +kernel
theorem f126_16 : m_fl (m_own 126) 16 = some (7, 3) := by decide +kernel
theorem k126_149 : m_ml (m_own 126) 149 = some (0, 112) := by decide +kernel
theorem k126_155 : m_ml (m_own 126) 155 = some (0, 124) := by decide +kernel
theorem g127_0 : m_get 127 0 = some (.aload_n 0, 1) := by decide +kernel
theorem g127_1 : m_get 127 1 = some (.iload_n 1, 1) := by decide +kernel
theorem g127_2 : m_get 127 2 = some (.invokevirtual 136, 3) := by decide +kernel
theorem g127_5 : m_get 127 5 = some (.ifCond .eq 13, 3) := by decide +kernel
theorem g127_8 : m_get 127 8 = some (.iload_n 2, 1) := by decide +kernel
theorem g127_9 : m_get 127 9 = some (.iconst 0, 1) := by decide +kernel
theorem g127_10 : m_get 127 10 = some (.bipush 9, 2) := by decide +kernel
theorem g127_12 : m_get 127 12 = some (.invokestatic 81, 3) := by decide +kernel
theorem g127_15 : m_get 127 15 = some (.ifCond .ne 5, 3) := by decide +kernel
theorem g127_18 : m_get 127 18 = some (.iconst (-1), 1) := by decide +kernel
theorem g127_19 : m_get 127 19 = some (.ireturn, 1) := by decide +kernel
theorem g127_20 : m_get 127 20 = some (.aload_n 0, 1) := by decide +kernel
theorem g127_21 : m_get 127 21 = some (.getfield 16, 3) := by decide +kernel
theorem g127_24 : m_get 127 24 = some (.bipush 9, 2) := by decide +kernel
theorem g127_26 : m_get 127 26 = some (.iload_n 1, 1) := by decide +kernel
theorem g127_27 : m_get 127 27 = some (.iadd, 1) := by decide +kernel
theorem g127_28 : m_get 127 28 = some (.iaload, 1) := by decide +kernel
theorem g127_29 : m_get 127 29 = some (.istore_n 3, 1) := by decide +kernel
theorem g127_30 : m_get 127 30 = some (.iload_n 3, 1) := by decide +kernel
theorem g127_31 : m_get 127 31 = some (.iload_n 2, 1) := by decide +kernel
theorem g127_32 : m_get 127 32 = some (.if_icmp .ne 6, 3) := by decide +kernel
theorem g127_35 : m_get 127 35 = some (.bipush (-2), 2) := by decide +kernel
theorem g127_37 : m_get 127 37 = some (.ireturn, 1) := by decide +kernel
theorem g127_38 : m_get 127 38 = some (.aload_n 0, 1) := by decide +kernel
theorem g127_39 : m_get 127 39 = some (.invokevirtual 155, 3) := by decide +kernel
theorem g127_42 : m_get 127 42 = some (.aload_n 0, 1) := by decide +kernel
theorem g127_43 : m_get 127 43 = some (.getfield 16, 3) := by decide +kernel
theorem g127_46 : m_get 127 46 = some (.bipush 9, 2) := by decide +kernel
theorem g127_48 : m_get 127 48 = some (.iload_n 1, 1) := by decide +kernel
theorem g127_49 : m_get 127 49 = some (.iadd, 1) := by decide +kernel
theorem g127_50 : m_get 127 50 = some (.iload_n 2, 1) := by decide +kernel
theorem g127_51 : m_get 127 51 = some (.iastore, 1) := by decide +kernel
theorem g127_52 : m_get 127 52 = some (.iload_n 3, 1) := by decide +kernel
theorem g127_53 : m_get 127 53 = some (.ireturn, 1) := by decide +kernel
theorem f127_16 : m_fl (m_own 127) 16 = some (7, 3) := by decide +kernel
theorem k127_81 : m_ml (m_own 127) 81 = some (1, 97) := by decide +kernel
theorem k127_136 : m_ml (m_own 127) 136 = some (0, 109) := by decide +kernel
theorem k127_155 : m_ml (m_own 127) 155 = some (0, 124) := by decide +kernel
theorem g128_0 : m_get 128 0 = some (.aload_n 0, 1) := by decide +kernel
theorem g128_1 : m_get 128 1 = some (.invokevirtual 116, 3) := by decide +kernel
theorem g128_4 : m_get 128 4 = some (.aload_n 0, 1) := by decide +kernel
theorem g128_5 : m_get 128 5 = some (.invokevirtual 158, 3) := by decide +kernel
theorem g128_8 : m_get 128 8 = some (.isub, 1) := by decide +kernel
theorem g128_9 : m_get 128 9 = some (.istore_n 1, 1) := by decide +kernel
theorem g128_10 : m_get 128 10 = some (.aload_n 0, 1) := by decide +kernel
theorem g128_11 : m_get 128 11 = some (.invokevirtual 155, 3) := by decide +kernel
theorem g128_14 : m_get 128 14 = some (.iconst 0, 1) := by decide +kernel
theorem g128_15 : m_get 128 15 = some (.istore_n 2, 1) := by decide +kernel
theorem g128_16 : m_get 128 16 = some (.iload_n 2, 1) := by decide +kernel
theorem g128_17 : m_get 128 17 = some (.bipush 9, 2) := by decide +kernel
theorem g128_19 : m_get 128 19 = some (.if_icmp .ge 17, 3) := by decide +kernel
theorem g128_22 : m_get 128 22 = some (.aload_n 0, 1) := by decide +kernel
theorem g128_23 : m_get 128 23 = some (.getfield 16, 3) := by decide +kernel
theorem g128_26 : m_get 128 26 = some (.iload_n 2, 1) := by decide +kernel
theorem g128_27 : m_get 128 27 = some (.bipush (-9), 2) := by decide +kernel
theorem g128_29 : m_get 128 29 = some (.iastore, 1) := by decide +kernel
theorem g128_30 : m_get 128 30 = some (.iinc 2 1, 3) := by decide +kernel
theorem g128_33 : m_get 128 33 = some (.goto (-17), 3) := by decide +kernel
theorem g128_36 : m_get 128 36 = some (.iload_n 1, 1) := by decide +kernel
theorem g128_37 : m_get 128 37 = some (.ireturn, 1) := by decide +kernel
theorem f128_16 : m_fl (m_own 128) 16 = some (7, 3) := by decide +kernel
theorem k128_116 : m_ml (m_own 128) 116 = some (0, 111) := by decide +kernel
theorem k128_155 : m_ml (m_own 128) 155 = some (0, 124) := by decide +kernel
theorem k128_158 : m_ml (m_own 128) 158 = some (0, 123) := by decide +kernel
theorem g129_0 : m_get 129 0 = some (.aload_n 0, 1) := by decide +kernel
theorem g129_1 : m_get 129 1 = some (.getfield 78, 3) := by decide +kernel
theorem g129_4 : m_get 129 4 = some (.ifCond .ne 6, 3) := by decide +kernel
theorem g129_7 : m_get 129 7 = some (.bipush (-2), 2) := by decide +kernel
theorem g129_9 : m_get 129 9 = some (.ireturn, 1) := by decide +kernel
theorem g129_10 : m_get 129 10 = some (.aload_n 0, 1) := by decide +kernel
theorem g129_11 : m_get 129 11 = some (.dup, 1) := by decide +kernel
theorem g129_12 : m_get 129 12 = some (.getfield 78, 3) := by decide +kernel
theorem g129_15 : m_get 129 15 = some (.iconst 1, 1) := by decide +kernel
theorem g129_16 : m_get 129 16 = some (.isub, 1) := by decide +kernel
theorem g129_17 : m_get 129 17 = some (.putfield 78, 3) := by decide +kernel
theorem g129_20 : m_get 129 20 = some (.iconst 0, 1) := by decide +kernel
theorem g129_21 : m_get 129 21 = some (.istore_n 1, 1) := by decide +kernel
theorem g129_22 : m_get 129 22 = some (.iload_n 1, 1) := by decide +kernel
theorem g129_23 : m_get 129 23 = some (.bipush 15, 2) := by decide +kernel
theorem g129_25 : m_get 129 25 = some (.if_icmp .ge 29, 3) := by decide +kernel
theorem g129_28 : m_get 129 28 = some (.aload_n 0, 1) := by decide +kernel
theorem g129_29 : m_get 129 29 = some (.getfield 16, 3) := by decide +kernel
theorem g129_32 : m_get 129 32 = some (.iload_n 1, 1) := by decide +kernel
theorem g129_33 : m_get 129 33 = some (.aload_n 0, 1) := by decide +kernel
theorem g129_34 : m_get 129 34 = some (.getfield 19, 3) := by decide +kernel
theorem g129_37 : m_get 129 37 = some (.bipush 15, 2) := by decide +kernel
theorem g129_39 : m_get 129 39 = some (.aload_n 0, 1) := by decide +kernel
theorem g129_40 : m_get 129 40 = some (.getfield 78, 3) := by decide +kernel
theorem g129_43 : m_get 129 43 = some (.imul, 1) := by decide +kernel
theorem g129_44 : m_get 129 44 = some (.iload_n 1, 1) := by decide +kernel
theorem g129_45 : m_get 129 45 = some (.iadd, 1) := by decide +kernel
theorem g129_46 : m_get 129 46 = some (.iaload, 1) := by decide +kernel
theorem g129_47 : m_get 129 47 = some (.iastore, 1) := by decide +kernel
theorem g129_48 : m_get 129 48 = some (.iinc 1 1, 3) := by decide +kernel
theorem g129_51 : m_get 129 51 = some (.goto (-29), 3) := by decide +kernel
theorem g129_54 : m_get 129 54 = some (.aload_n 0, 1) := by decide +kernel
theorem g129_55 : m_get 129 55 = some (.getfield 78, 3) := by decide +kernel
theorem g129_58 : m_get 129 58 = some (.ireturn, 1) := by decide +kernel
theorem f129_16 : m_fl (m_own 129) 16 = some (7, 3) := by decide +kernel
theorem f129_19 : m_fl (m_own 129) 19 = some (7, 5) := by decide +kernel
theorem f129_78 : m_fl (m_own 129) 78 = some (7, 4) := by decide +kernel
theorem g130_0 : m_get 130 0 = some (.aload_n 0, 1) := by decide +kernel
theorem g130_1 : m_get 130 1 = some (.iload_n 1, 1) := by decide +kernel
theorem g130_2 : m_get 130 2 = some (.invokevirtual 149, 3) := by decide +kernel
theorem g130_5 : m_get 130 5 = some (.ifCond .eq 12, 3) := by decide +kernel
theorem g130_8 : m_get 130 8 = some (.aload_n 0, 1) := by decide +kernel
theorem g130_9 : m_get 130 9 = some (.getfield 16, 3) := by decide +kernel
theorem g130_12 : m_get 130 12 = some (.iload_n 1, 1) := by decide +kernel
theorem g130_13 : m_get 130 13 = some (.iaload, 1) := by decide +kernel
theorem g130_14 : m_get 130 14 = some (.goto 4, 3) := by decide +kernel
theorem g130_17 : m_get 130 17 = some (.iconst (-1), 1) := by decide +kernel
theorem g130_18 : m_get 130 18 = some (.ireturn, 1) := by decide +kernel
theorem f130_16 : m_fl (m_own 130) 16 = some (7, 3) := by decide +kernel
theorem k130_149 : m_ml (m_own 130) 149 = some (0, 112) := by decide +kernel
theorem g131_0 : m_get 131 0 = some (.aload_n 0, 1) := by decide +kernel
theorem g131_1 : m_get 131 1 = some (.iload_n 1, 1) := by decide +kernel
theorem g131_2 : m_get 131 2 = some (.invokevirtual 149, 3) := by decide +kernel
theorem g131_5 : m_get 131 5 = some (.ifCond .eq 11, 3) := by decide +kernel
theorem g131_8 : m_get 131 8 = some (.aload_n 0, 1) := by decide +kernel
theorem g131_9 : m_get 131 9 = some (.iload_n 2, 1) := by decide +kernel
theorem g131_10 : m_get 131 10 = some (.invokevirtual 143, 3) := by decide +kernel
theorem g131_13 : m_get 131 13 = some (.ifCond .ne 5, 3) := by decide +kernel
theorem g131_16 : m_get 131 16 = some (.iconst (-1), 1) := by decide +kernel
theorem g131_17 : m_get 131 17 = some (.ireturn, 1) := by decide +kernel
theorem g131_18 : m_get 131 18 = some (.aload_n 0, 1) := by decide +kernel
theorem g131_19 : m_get 131 19 = some (.getfield 16, 3) := by decide +kernel
theorem g131_22 : m_get 131 22 = some (.iload_n 1, 1) := by decide +kernel
theorem g131_23 : m_get 131 23 = some (.iaload, 1) := by decide +kernel
theorem g131_24 : m_get 131 24 = some (.bipush (-9), 2) := by decide +kernel
theorem g131_26 : m_get 131 26 = some (.if_icmp .eq 6, 3) := by decide +kernel
theorem g131_29 : m_get 131 29 = some (.bipush (-2), 2) := by decide +kernel
theorem g131_31 : m_get 131 31 = some (.ireturn, 1) := by decide +kernel
theorem g131_32 : m_get 131 32 = some (.aload_n 0, 1) := by decide +kernel
theorem g131_33 : m_get 131 33 = some (.invokevirtual 140, 3) := by decide +kernel
theorem g131_36 : m_get 131 36 = some (.aload_n 0, 1) := by decide +kernel
theorem g131_37 : m_get 131 37 = some (.iload_n 1, 1) := by decide +kernel
theorem g131_38 : m_get 131 38 = some (.iload_n 2, 1) := by decide +kernel
theorem g131_39 : m_get 131 39 = some (.invokevirtual 152, 3) := by decide +kernel
theorem g131_42 : m_get 131 42 = some (.ireturn, 1) := by decide +kernel
theorem f131_16 : m_fl (m_own 131) 16 = some (7, 3) := by decide +kernel
theorem k131_140 : m_ml (m_own 131) 140 = some (0, 116) := by decide +kernel
theorem k131_143 : m_ml (m_own 131) 143 = some (0, 110) := by decide +kernel
theorem k131_149 : m_ml (m_own 131) 149 = some (0, 112) := by decide +kernel
theorem k131_152 : m_ml (m_own 131) 152 = some (0, 120) := by decide +kernel
theorem g132_0 : m_get 132 0 = some (.iconst 0, 1) := by decide +kernel
theorem g132_1 : m_get 132 1 = some (.istore 4, 2) := by decide +kernel
theorem g132_3 : m_get 132 3 = some (.iconst 0, 1) := by decide +kernel
theorem g132_4 : m_get 132 4 = some (.istore 5, 2) := by decide +kernel
theorem g132_6 : m_get 132 6 = some (.iload 5, 2) := by decide +kernel
theorem g132_8 : m_get 132 8 = some (.iconst 4, 1) := by decide +kernel
theorem g132_9 : m_get 132 9 = some (.aload_n 0, 1) := by decide +kernel
theorem g132_10 : m_get 132 10 = some (.getfield 75, 3) := by decide +kernel
theorem g132_13 : m_get 132 13 = some (.imul, 1) := by decide +kernel
theorem g132_14 : m_get 132 14 = some (.if_icmp .ge 47, 3) := by decide +kernel
theorem g132_17 : m_get 132 17 = some (.iload 4, 2) := by decide +kernel
theorem g132_19 : m_get 132 19 = some (.ifCond .ne 29, 3) := by decide +kernel
theorem g132_22 : m_get 132 22 = some (.aload_n 0, 1) := by decide +kernel
theorem g132_23 : m_get 132 23 = some (.getfield 44, 3) := by decide +kernel
theorem g132_26 : m_get 132 26 = some (.iload_n 1, 1) := by decide +kernel
theorem g132_27 : m_get 132 27 = some (.iaload, 1) := by decide +kernel
theorem g132_28 : m_get 132 28 = some (.iload 5, 2) := by decide +kernel
theorem g132_30 : m_get 132 30 = some (.ishr, 1) := by decide +kernel
theorem g132_31 : m_get 132 31 = some (.iconst 1, 1) := by decide +kernel
theorem g132_32 : m_get 132 32 = some (.iand, 1) := by decide +kernel
theorem g132_33 : m_get 132 33 = some (.iconst 1, 1) := by decide +kernel
theorem g132_34 : m_get 132 34 = some (.if_icmp .ne 18, 3) := by decide +kernel
theorem g132_37 : m_get 132 37 = some (.aload_n 0, 1) := by decide +kernel
theorem g132_38 : m_get 132 38 = some (.iload 5, 2) := by decide +kernel
theorem g132_40 : m_get 132 40 = some (.iload_n 2, 1) := by decide +kernel
theorem g132_41 : m_get 132 41 = some (.invokevirtual 119, 3) := by decide +kernel
theorem g132_44 : m_get 132 44 = some (.iload_n 3, 1) := by decide +kernel
theorem g132_45 : m_get 132 45 = some (.if_icmp .ne 7, 3) := by decide +kernel
theorem g132_48 : m_get 132 48 = some (.iconst 1, 1) := by decide +kernel
theorem g132_49 : m_get 132 49 = some (.goto 4, 3) := by decide +kernel
theorem g132_52 : m_get 132 52 = some (.iconst 0, 1) := by decide +kernel
theorem g132_53 : m_get 132 53 = some (.istore 4, 2) := by decide +kernel
theorem g132_55 : m_get 132 55 = some (.iinc 5 1, 3) := by decide +kernel
theorem g132_58 : m_get 132 58 = some (.goto (-52), 3) := by decide +kernel
theorem g132_61 : m_get 132 61 = some (.iload 4, 2) := by decide +kernel
theorem g132_63 : m_get 132 63 = some (.ireturn, 1) := by decide +kernel
theorem f132_44 : m_fl (m_own 132) 44 = some (7, 18) := by decide +kernel
theorem f132_75 : m_fl (m_own 132) 75 = some (7, 0) := by decide +kernel
theorem k132_119 : m_ml (m_own 132) 119 = some (0, 113) := by decide +kernel
theorem g133_0 : m_get 133 0 = some (.iconst 1, 1) := by decide +kernel
theorem g133_1 : m_get 133 1 = some (.istore_n 3, 1) := by decide +kernel
theorem g133_2 : m_get 133 2 = some (.iconst 0, 1) := by decide +kernel
theorem g133_3 : m_get 133 3 = some (.istore 4, 2) := by decide +kernel
theorem g133_5 : m_get 133 5 = some (.iload 4, 2) := by decide +kernel
theorem g133_7 : m_get 133 7 = some (.iconst 4, 1) := by decide +kernel
theorem g133_8 : m_get 133 8 = some (.if_icmp .ge 69, 3) := by decide +kernel
theorem g133_11 : m_get 133 11 = some (.aload_n 0, 1) := by decide +kernel
theorem g133_12 : m_get 133 12 = some (.iload_n 1, 1) := by decide +kernel
theorem g133_13 : m_get 133 13 = some (.iload 4, 2) := by decide +kernel
theorem g133_15 : m_get 133 15 = some (.invokevirtual 130, 3) := by decide +kernel
theorem g133_18 : m_get 133 18 = some (.istore 5, 2) := by decide +kernel
theorem g133_20 : m_get 133 20 = some (.iload_n 3, 1) := by decide +kernel
theorem g133_21 : m_get 133 21 = some (.ifCond .eq 48, 3) := by decide +kernel
theorem g133_24 : m_get 133 24 = some (.iload 5, 2) := by decide +kernel
theorem g133_26 : m_get 133 26 = some (.bipush (-9), 2) := by decide +kernel
theorem g133_28 : m_get 133 28 = some (.if_icmp .eq 37, 3) := by decide +kernel
theorem g133_31 : m_get 133 31 = some (.aload_n 0, 1) := by decide +kernel
theorem g133_32 : m_get 133 32 = some (.getfield 16, 3) := by decide +kernel
theorem g133_35 : m_get 133 35 = some (.iload 5, 2) := by decide +kernel
theorem g133_37 : m_get 133 37 = some (.iaload, 1) := by decide +kernel
theorem g133_38 : m_get 133 38 = some (.bipush (-9), 2) := by decide +kernel
theorem g133_40 : m_get 133 40 = some (.if_icmp .ne 25, 3) := by decide +kernel
theorem g133_43 : m_get 133 43 = some (.aload_n 0, 1) := by decide +kernel
theorem g133_44 : m_get 133 44 = some (.iload 5, 2) := by decide +kernel
theorem g133_46 : m_get 133 46 = some (.iload 4, 2) := by decide +kernel
theorem g133_48 : m_get 133 48 = some (.iconst 2, 1) := by decide +kernel
theorem g133_49 : m_get 133 49 = some (.iadd, 1) := by decide +kernel
theorem g133_50 : m_get 133 50 = some (.iconst 4, 1) := by decide +kernel
theorem g133_51 : m_get 133 51 = some (.irem, 1) := by decide +kernel
theorem g133_52 : m_get 133 52 = some (.aload_n 0, 1) := by decide +kernel
theorem g133_53 : m_get 133 53 = some (.iload_n 2, 1) := by decide +kernel
theorem g133_54 : m_get 133 54 = some (.iload 4, 2) := by decide +kernel
theorem g133_56 : m_get 133 56 = some (.invokevirtual 119, 3) := by decide +kernel
theorem g133_59 : m_get 133 59 = some (.invokevirtual 161, 3) := by decide +kernel
theorem g133_62 : m_get 133 62 = some (.ifCond .eq 7, 3) := by decide +kernel
theorem g133_65 : m_get 133 65 = some (.iconst 1, 1) := by decide +kernel
theorem g133_66 : m_get 133 66 = some (.goto 4, 3) := by decide +kernel
theorem g133_69 : m_get 133 69 = some (.iconst 0, 1) := by decide +kernel
theorem g133_70 : m_get 133 70 = some (.istore_n 3, 1) := by decide +kernel
theorem g133_71 : m_get 133 71 = some (.iinc 4 1, 3) := by decide +kernel
theorem g133_74 : m_get 133 74 = some (.goto (-69), 3) := by decide +kernel
theorem g133_77 : m_get 133 77 = some (.iload_n 3, 1) := by decide +kernel
theorem g133_78 : m_get 133 78 = some (.ireturn, 1) := by decide +kernel
theorem f133_16 : m_fl (m_own 133) 16 = some (7, 3) := by decide +kernel
theorem k133_119 : m_ml (m_own 133) 119 = some (0, 113) := by decide +kernel
theorem k133_130 : m_ml (m_own 133) 130 = some (0, 119) := by decide +kernel
theorem k133_161 : m_ml (m_own 133) 161 = some (0, 132) := by decide +kernel
end
section
/-! facts of the tables, one by one (printed by gen3.py) -/
theorem g134_0 : m_get 134 0 = some (.aload_n 0, 1) := by decide +kernel
theorem g134_1 : m_get 134 1 = some (.invokevirtual 140, 3) := by decide +kernel
theorem g134_4 : m_get 134 4 = some (.iconst 0, 1) := by decide +kernel
theorem g134_5 : m_get 134 5 = some (.istore_n 1, 1) := by decide +kernel
theorem g134_6 : m_get 134 6 = some (.iload_n 1, 1) := by decide +kernel
theorem g134_7 : m_get 134 7 = some (.aload_n 0, 1) := by decide +kernel
theorem g134_8 : m_get 134 8 = some (.invokevirtual 116, 3) := by decide +kernel
theorem g134_11 : m_get 134 11 = some (.if_icmp .ge 78, 3) := by decide +kernel
theorem g134_14 : m_get 134 14 = some (.aload_n 0, 1) := by decide +kernel
theorem g134_15 : m_get 134 15 = some (.getfield 44, 3) := by decide +kernel
theorem g134_18 : m_get 134 18 = some (.iload_n 1, 1) := by decide +kernel
theorem g134_19 : m_get 134 19 = some (.iconst 0, 1) := by decide +kernel
theorem g134_20 : m_get 134 20 = some (.iastore, 1) := by decide +kernel
theorem g134_21 : m_get 134 21 = some (.iconst 0, 1) := by decide +kernel
theorem g134_22 : m_get 134 22 = some (.istore_n 2, 1) := by decide +kernel
theorem g134_23 : m_get 134 23 = some (.iload_n 2, 1) := by decide +kernel
theorem g134_24 : m_get 134 24 = some (.iconst 4, 1) := by decide +kernel
theorem g134_25 : m_get 134 25 = some (.aload_n 0, 1) := by decide +kernel
theorem g134_26 : m_get 134 26 = some (.getfield 75, 3) := by decide +kernel
theorem g134_29 : m_get 134 29 = some (.imul, 1) := by decide +kernel
theorem g134_30 : m_get 134 30 = some (.if_icmp .ge 53, 3) := by decide +kernel
theorem g134_33 : m_get 134 33 = some (.aload_n 0, 1) := by decide +kernel
theorem g134_34 : m_get 134 34 = some (.getfield 16, 3) := by decide +kernel
theorem g134_37 : m_get 134 37 = some (.iload_n 1, 1) := by decide +kernel
theorem g134_38 : m_get 134 38 = some (.iaload, 1) := by decide +kernel
theorem g134_39 : m_get 134 39 = some (.bipush (-9), 2) := by decide +kernel
theorem g134_41 : m_get 134 41 = some (.if_icmp .ne 42, 3) := by decide +kernel
theorem g134_44 : m_get 134 44 = some (.aload_n 0, 1) := by decide +kernel
theorem g134_45 : m_get 134 45 = some (.getfield 44, 3) := by decide +kernel
theorem g134_48 : m_get 134 48 = some (.iload_n 1, 1) := by decide +kernel
theorem g134_49 : m_get 134 49 = some (.dup2, 1) := by decide +kernel
theorem g134_50 : m_get 134 50 = some (.iaload, 1) := by decide +kernel
theorem g134_51 : m_get 134 51 = some (.aload_n 0, 1) := by decide +kernel
theorem g134_52 : m_get 134 52 = some (.iload_n 2, 1) := by decide +kernel
theorem g134_53 : m_get 134 53 = some (.invokevirtual 146, 3) := by decide +kernel
theorem g134_56 : m_get 134 56 = some (.ifCond .eq 18, 3) := by decide +kernel
theorem g134_59 : m_get 134 59 = some (.aload_n 0, 1) := by decide +kernel
theorem g134_60 : m_get 134 60 = some (.iload_n 1, 1) := by decide +kernel
theorem g134_61 : m_get 134 61 = some (.iload_n 2, 1) := by decide +kernel
theorem g134_62 : m_get 134 62 = some (.invokevirtual 152, 3) := by decide +kernel
theorem g134_65 : m_get 134 65 = some (.ifCond .ne 9, 3) := by decide +kernel
theorem g134_68 : m_get 134 68 = some (.iconst 1, 1) := by decide +kernel
theorem g134_69 : m_get 134 69 = some (.iload_n 2, 1) := by decide +kernel
theorem g134_70 : m_get 134 70 = some (.ishl, 1) := by decide +kernel
theorem g134_71 : m_get 134 71 = some (.goto 4, 3) := by decide +kernel
theorem g134_74 : m_get 134 74 = some (.iconst 0, 1) := by decide +kernel
theorem g134_75 : m_get 134 75 = some (.ior, 1) := by decide +kernel
theorem g134_76 : m_get 134 76 = some (.iastore, 1) := by decide +kernel
theorem g134_77 : m_get 134 77 = some (.iinc 2 1, 3) := by decide +kernel
theorem g134_80 : m_get 134 80 = some (.goto (-57), 3) := by decide +kernel
theorem g134_83 : m_get 134 83 = some (.iinc 1 1, 3) := by decide +kernel
theorem g134_86 : m_get 134 86 = some (.goto (-80), 3) := by decide +kernel
theorem g134_89 : m_get 134 89 = some (.iconst 1, 1) := by decide +kernel
theorem g134_90 : m_get 134 90 = some (.istore_n 1, 1) := by decide +kernel
theorem g134_91 : m_get 134 91 = some (.iload_n 1, 1) := by decide +kernel
theorem g134_92 : m_get 134 92 = some (.ifCond .eq 79, 3) := by decide +kernel
theorem g134_95 : m_get 134 95 = some (.iconst 0, 1) := by decide +kernel
theorem g134_96 : m_get 134 96 = some (.istore_n 1, 1) := by decide +kernel
theorem g134_97 : m_get 134 97 = some (.iconst 0, 1) := by decide +kernel
theorem g134_98 : m_get 134 98 = some (.istore_n 2, 1) := by decide +kernel
theorem g134_99 : m_get 134 99 = some (.iload_n 2, 1) := by decide +kernel
theorem g134_100 : m_get 134 100 = some (.aload_n 0, 1) := by decide +kernel
theorem g134_101 : m_get 134 101 = some (.invokevirtual 116, 3) := by decide +kernel
theorem g134_104 : m_get 134 104 = some (.if_icmp .ge 64, 3) := by decide +kernel
theorem g134_107 : m_get 134 107 = some (.iconst 0, 1) := by decide +kernel
theorem g134_108 : m_get 134 108 = some (.istore_n 3, 1) := by decide +kernel
theorem g134_109 : m_get 134 109 = some (.iload_n 3, 1) := by decide +kernel
theorem g134_110 : m_get 134 110 = some (.iconst 4, 1) := by decide +kernel
theorem g134_111 : m_get 134 111 = some (.aload_n 0, 1) := by decide +kernel
theorem g134_112 : m_get 134 112 = some (.getfield 75, 3) := by decide +kernel
theorem g134_115 : m_get 134 115 = some (.imul, 1) := by decide +kernel
theorem g134_116 : m_get 134 116 = some (.if_icmp .ge 46, 3) := by decide +kernel
theorem g134_119 : m_get 134 119 = some (.aload_n 0, 1) := by decide +kernel
theorem g134_120 : m_get 134 120 = some (.getfield 44, 3) := by decide +kernel
theorem g134_123 : m_get 134 123 = some (.iload_n 2, 1) := by decide +kernel
theorem g134_124 : m_get 134 124 = some (.iaload, 1) := by decide +kernel
theorem g134_125 : m_get 134 125 = some (.iload_n 3, 1) := by decide +kernel
theorem g134_126 : m_get 134 126 = some (.ishr, 1) := by decide +kernel
theorem g134_127 : m_get 134 127 = some (.iconst 1, 1) := by decide +kernel
theorem g134_128 : m_get 134 128 = some (.iand, 1) := by decide +kernel
theorem g134_129 : m_get 134 129 = some (.iconst 1, 1) := by decide +kernel
theorem g134_130 : m_get 134 130 = some (.if_icmp .ne 26, 3) := by decide +kernel
theorem g134_133 : m_get 134 133 = some (.aload_n 0, 1) := by decide +kernel
theorem g134_134 : m_get 134 134 = some (.iload_n 2, 1) := by decide +kernel
theorem g134_135 : m_get 134 135 = some (.iload_n 3, 1) := by decide +kernel
theorem g134_136 : m_get 134 136 = some (.invokevirtual 164, 3) := by decide +kernel
theorem g134_139 : m_get 134 139 = some (.ifCond .ne 17, 3) := by decide +kernel
theorem g134_142 : m_get 134 142 = some (.aload_n 0, 1) := by decide +kernel
theorem g134_143 : m_get 134 143 = some (.getfield 44, 3) := by decide +kernel
theorem g134_146 : m_get 134 146 = some (.iload_n 2, 1) := by decide +kernel
theorem g134_147 : m_get 134 147 = some (.dup2, 1) := by decide +kernel
theorem g134_148 : m_get 134 148 = some (.iaload, 1) := by decide +kernel
theorem g134_149 : m_get 134 149 = some (.iconst 1, 1) := by decide +kernel
theorem g134_150 : m_get 134 150 = some (.iload_n 3, 1) := by decide +kernel
theorem g134_151 : m_get 134 151 = some (.ishl, 1) := by decide +kernel
theorem g134_152 : m_get 134 152 = some (.ixor, 1) := by decide +kernel
theorem g134_153 : m_get 134 153 = some (.iastore, 1) := by decide +kernel
theorem g134_154 : m_get 134 154 = some (.iconst 1, 1) := by decide +kernel
theorem g134_155 : m_get 134 155 = some (.istore_n 1, 1) := by decide +kernel
theorem g134_156 : m_get 134 156 = some (.iinc 3 1, 3) := by decide +kernel
theorem g134_159 : m_get 134 159 = some (.goto (-50), 3) := by decide +kernel
theorem g134_162 : m_get 134 162 = some (.iinc 2 1, 3) := by decide +kernel
theorem g134_165 : m_get 134 165 = some (.goto (-66), 3) := by decide +kernel
theorem g134_168 : m_get 134 168 = some (.goto (-77), 3) := by decide +kernel
theorem g134_171 : m_get 134 171 = some (.return_, 1) := by decide +kernel
theorem f134_16 : m_fl (m_own 134) 16 = some (7, 3) := by decide +kernel
theorem f134_44 : m_fl (m_own 134) 44 = some (7, 18) := by decide +kernel
theorem f134_75 : m_fl (m_own 134) 75 = some (7, 0) := by decide +kernel
theorem k134_116 : m_ml (m_own 134) 116 = some (0, 111) := by decide +kernel
theorem k134_140 : m_ml (m_own 134) 140 = some (0, 116) := by decide +kernel
theorem k134_146 : m_ml (m_own 134) 146 = some (0, 114) := by decide +kernel
theorem k134_152 : m_ml (m_own 134) 152 = some (0, 120) := by decide +kernel
theorem k134_164 : m_ml (m_own 134) 164 = some (0, 133) := by decide +kernel
theorem g135_0 : m_get 135 0 = some (.iconst 0, 1) := by decide +kernel
theorem g135_1 : m_get 135 1 = some (.istore_n 1, 1) := by decide +kernel
theorem g135_2 : m_get 135 2 = some (.iconst 0, 1) := by decide +kernel
theorem g135_3 : m_get 135 3 = some (.istore_n 2, 1) := by decide +kernel
theorem g135_4 : m_get 135 4 = some (.iload_n 2, 1) := by decide +kernel
theorem g135_5 : m_get 135 5 = some (.bipush 24, 2) := by decide +kernel
theorem g135_7 : m_get 135 7 = some (.if_icmp .ge 17, 3) := by decide +kernel
theorem g135_10 : m_get 135 10 = some (.iload_n 1, 1) := by decide +kernel
theorem g135_11 : m_get 135 11 = some (.iload_n 0, 1) := by decide +kernel
theorem g135_12 : m_get 135 12 = some (.iload_n 2, 1) := by decide +kernel
theorem g135_13 : m_get 135 13 = some (.ishr, 1) := by decide +kernel
theorem g135_14 : m_get 135 14 = some (.iconst 1, 1) := by decide +kernel
theorem g135_15 : m_get 135 15 = some (.iand, 1) := by decide +kernel
theorem g135_16 : m_get 135 16 = some (.iadd, 1) := by decide +kernel
theorem g135_17 : m_get 135 17 = some (.istore_n 1, 1) := by decide +kernel
theorem g135_18 : m_get 135 18 = some (.iinc 2 1, 3) := by decide +kernel
theorem g135_21 : m_get 135 21 = some (.goto (-17), 3) := by decide +kernel
theorem g135_24 : m_get 135 24 = some (.iload_n 1, 1) := by decide +kernel
theorem g135_25 : m_get 135 25 = some (.ireturn, 1) := by decide +kernel
theorem g136_0 : m_get 136 0 = some (.aload_n 0, 1) := by decide +kernel
theorem g136_1 : m_get 136 1 = some (.iload_n 1, 1) := by decide +kernel
theorem g136_2 : m_get 136 2 = some (.invokevirtual 149, 3) := by decide +kernel
theorem g136_5 : m_get 136 5 = some (.ifCond .eq 8, 3) := by decide +kernel
theorem g136_8 : m_get 136 8 = some (.iload_n 2, 1) := by decide +kernel
theorem g136_9 : m_get 136 9 = some (.iconst (-1), 1) := by decide +kernel
theorem g136_10 : m_get 136 10 = some (.if_icmp .ge 5, 3) := by decide +kernel
theorem g136_13 : m_get 136 13 = some (.iconst (-1), 1) := by decide +kernel
theorem g136_14 : m_get 136 14 = some (.ireturn, 1) := by decide +kernel
theorem g136_15 : m_get 136 15 = some (.aload_n 0, 1) := by decide +kernel
theorem g136_16 : m_get 136 16 = some (.getfield 16, 3) := by decide +kernel
theorem g136_19 : m_get 136 19 = some (.iload_n 1, 1) := by decide +kernel
theorem g136_20 : m_get 136 20 = some (.iaload, 1) := by decide +kernel
theorem g136_21 : m_get 136 21 = some (.bipush (-9), 2) := by decide +kernel
theorem g136_23 : m_get 136 23 = some (.if_icmp .eq 6, 3) := by decide +kernel
theorem g136_26 : m_get 136 26 = some (.bipush (-2), 2) := by decide +kernel
theorem g136_28 : m_get 136 28 = some (.ireturn, 1) := by decide +kernel
theorem g136_29 : m_get 136 29 = some (.aload_n 0, 1) := by decide +kernel
theorem g136_30 : m_get 136 30 = some (.invokevirtual 167, 3) := by decide +kernel
theorem g136_33 : m_get 136 33 = some (.iload_n 2, 1) := by decide +kernel
theorem g136_34 : m_get 136 34 = some (.iconst (-1), 1) := by decide +kernel
theorem g136_35 : m_get 136 35 = some (.if_icmp .ne 13, 3) := by decide +kernel
theorem g136_38 : m_get 136 38 = some (.aload_n 0, 1) := by decide +kernel
theorem g136_39 : m_get 136 39 = some (.getfield 44, 3) := by decide +kernel
theorem g136_42 : m_get 136 42 = some (.iload_n 1, 1) := by decide +kernel
theorem g136_43 : m_get 136 43 = some (.iaload, 1) := by decide +kernel
theorem g136_44 : m_get 136 44 = some (.invokestatic 170, 3) := by decide +kernel
theorem g136_47 : m_get 136 47 = some (.ireturn, 1) := by decide +kernel
theorem g136_48 : m_get 136 48 = some (.iload_n 2, 1) := by decide +kernel
theorem g136_49 : m_get 136 49 = some (.istore_n 3, 1) := by decide +kernel
theorem g136_50 : m_get 136 50 = some (.iconst 0, 1) := by decide +kernel
theorem g136_51 : m_get 136 51 = some (.istore 4, 2) := by decide +kernel
theorem g136_53 : m_get 136 53 = some (.iload 4, 2) := by decide +kernel
theorem g136_55 : m_get 136 55 = some (.iconst 4, 1) := by decide +kernel
theorem g136_56 : m_get 136 56 = some (.aload_n 0, 1) := by decide +kernel
theorem g136_57 : m_get 136 57 = some (.getfield 75, 3) := by decide +kernel
theorem g136_60 : m_get 136 60 = some (.imul, 1) := by decide +kernel
theorem g136_61 : m_get 136 61 = some (.if_icmp .ge 34, 3) := by decide +kernel
theorem g136_64 : m_get 136 64 = some (.aload_n 0, 1) := by decide +kernel
theorem g136_65 : m_get 136 65 = some (.getfield 44, 3) := by decide +kernel
theorem g136_68 : m_get 136 68 = some (.iload_n 1, 1) := by decide +kernel
theorem g136_69 : m_get 136 69 = some (.iaload, 1) := by decide +kernel
theorem g136_70 : m_get 136 70 = some (.iload 4, 2) := by decide +kernel
theorem g136_72 : m_get 136 72 = some (.ishr, 1) := by decide +kernel
theorem g136_73 : m_get 136 73 = some (.iconst 1, 1) := by decide +kernel
theorem g136_74 : m_get 136 74 = some (.iand, 1) := by decide +kernel
theorem g136_75 : m_get 136 75 = some (.iconst 1, 1) := by decide +kernel
theorem g136_76 : m_get 136 76 = some (.if_icmp .ne 13, 3) := by decide +kernel
theorem g136_79 : m_get 136 79 = some (.iload_n 3, 1) := by decide +kernel
theorem g136_80 : m_get 136 80 = some (.ifCond .ne 6, 3) := by decide +kernel
theorem g136_83 : m_get 136 83 = some (.iload 4, 2) := by decide +kernel
theorem g136_85 : m_get 136 85 = some (.ireturn, 1) := by decide +kernel
theorem g136_86 : m_get 136 86 = some (.iinc 3 (-1), 3) := by decide +kernel
theorem g136_89 : m_get 136 89 = some (.iinc 4 1, 3) := by decide +kernel
theorem g136_92 : m_get 136 92 = some (.goto (-39), 3) := by decide +kernel
theorem g136_95 : m_get 136 95 = some (.bipush (-9), 2) := by decide +kernel
theorem g136_97 : m_get 136 97 = some (.ireturn, 1) := by decide +kernel
theorem f136_16 : m_fl (m_own 136) 16 = some (7, 3) := by decide +kernel
theorem f136_44 : m_fl (m_own 136) 44 = some (7, 18) := by decide +kernel
theorem f136_75 : m_fl (m_own 136) 75 = some (7, 0) := by decide +kernel
theorem k136_149 : m_ml (m_own 136) 149 = some (0, 112) := by decide +kernel
theorem k136_167 : m_ml (m_own 136) 167 = some (0, 134) := by decide +kernel
theorem k136_170 : m_ml (m_own 136) 170 = some (1, 135) := by decide +kernel
theorem g137_0 : m_get 137 0 = some (.iload_n 1, 1) := by decide +kernel
theorem g137_1 : m_get 137 1 = some (.istore_n 2, 1) := by decide +kernel
theorem g137_2 : m_get 137 2 = some (.iconst 0, 1) := by decide +kernel
theorem g137_3 : m_get 137 3 = some (.istore_n 3, 1) := by decide +kernel
theorem g137_4 : m_get 137 4 = some (.iload_n 3, 1) := by decide +kernel
theorem g137_5 : m_get 137 5 = some (.aload_n 0, 1) := by decide +kernel
theorem g137_6 : m_get 137 6 = some (.getfield 75, 3) := by decide +kernel
theorem g137_9 : m_get 137 9 = some (.if_icmp .ge 81, 3) := by decide +kernel
theorem g137_12 : m_get 137 12 = some (.iconst 1, 1) := by decide +kernel
theorem g137_13 : m_get 137 13 = some (.istore 4, 2) := by decide +kernel
theorem g137_15 : m_get 137 15 = some (.iconst 0, 1) := by decide +kernel
theorem g137_16 : m_get 137 16 = some (.istore 5, 2) := by decide +kernel
theorem g137_18 : m_get 137 18 = some (.iload 5, 2) := by decide +kernel
theorem g137_20 : m_get 137 20 = some (.iload_n 3, 1) := by decide +kernel
theorem g137_21 : m_get 137 21 = some (.if_icmp .ge 35, 3) := by decide +kernel
theorem g137_24 : m_get 137 24 = some (.iload 4, 2) := by decide +kernel
theorem g137_26 : m_get 137 26 = some (.ifCond .eq 21, 3) := by decide +kernel
theorem g137_29 : m_get 137 29 = some (.aload_n 0, 1) := by decide +kernel
theorem g137_30 : m_get 137 30 = some (.iload 5, 2) := by decide +kernel
theorem g137_32 : m_get 137 32 = some (.invokevirtual 123, 3) := by decide +kernel
theorem g137_35 : m_get 137 35 = some (.aload_n 0, 1) := by decide +kernel
theorem g137_36 : m_get 137 36 = some (.iload_n 3, 1) := by decide +kernel
theorem g137_37 : m_get 137 37 = some (.invokevirtual 123, 3) := by decide +kernel
theorem g137_40 : m_get 137 40 = some (.if_icmp .eq 7, 3) := by decide +kernel
theorem g137_43 : m_get 137 43 = some (.iconst 1, 1) := by decide +kernel
theorem g137_44 : m_get 137 44 = some (.goto 4, 3) := by decide +kernel
theorem g137_47 : m_get 137 47 = some (.iconst 0, 1) := by decide +kernel
theorem g137_48 : m_get 137 48 = some (.istore 4, 2) := by decide +kernel
theorem g137_50 : m_get 137 50 = some (.iinc 5 1, 3) := by decide +kernel
theorem g137_53 : m_get 137 53 = some (.goto (-35), 3) := by decide +kernel
theorem g137_56 : m_get 137 56 = some (.iload 4, 2) := by decide +kernel
theorem g137_58 : m_get 137 58 = some (.ifCond .eq 13, 3) := by decide +kernel
theorem g137_61 : m_get 137 61 = some (.iload_n 2, 1) := by decide +kernel
theorem g137_62 : m_get 137 62 = some (.ifCond .ne 9, 3) := by decide +kernel
theorem g137_65 : m_get 137 65 = some (.aload_n 0, 1) := by decide +kernel
theorem g137_66 : m_get 137 66 = some (.iload_n 3, 1) := by decide +kernel
theorem g137_67 : m_get 137 67 = some (.invokevirtual 123, 3) := by decide +kernel
theorem g137_70 : m_get 137 70 = some (.ireturn, 1) := by decide +kernel
theorem g137_71 : m_get 137 71 = some (.iload_n 2, 1) := by decide +kernel
theorem g137_72 : m_get 137 72 = some (.iload 4, 2) := by decide +kernel
theorem g137_74 : m_get 137 74 = some (.ifCond .eq 7, 3) := by decide +kernel
theorem g137_77 : m_get 137 77 = some (.iconst 1, 1) := by decide +kernel
theorem g137_78 : m_get 137 78 = some (.goto 4, 3) := by decide +kernel
theorem g137_81 : m_get 137 81 = some (.iconst 0, 1) := by decide +kernel
theorem g137_82 : m_get 137 82 = some (.isub, 1) := by decide +kernel
theorem g137_83 : m_get 137 83 = some (.istore_n 2, 1) := by decide +kernel
theorem g137_84 : m_get 137 84 = some (.iinc 3 1, 3) := by decide +kernel
theorem g137_87 : m_get 137 87 = some (.goto (-83), 3) := by decide +kernel
theorem g137_90 : m_get 137 90 = some (.bipush (-9), 2) := by decide +kernel
theorem g137_92 : m_get 137 92 = some (.ireturn, 1) := by decide +kernel
theorem f137_75 : m_fl (m_own 137) 75 = some (7, 0) := by decide +kernel
theorem k137_123 : m_ml (m_own 137) 123 = some (0, 115) := by decide +kernel
theorem g138_0 : m_get 138 0 = some (.iload_n 1, 1) := by decide +kernel
theorem g138_1 : m_get 138 1 = some (.ifCond .lt 12, 3) := by decide +kernel
theorem g138_4 : m_get 138 4 = some (.iload_n 2, 1) := by decide +kernel
theorem g138_5 : m_get 138 5 = some (.iconst 0, 1) := by decide +kernel
theorem g138_6 : m_get 138 6 = some (.iconst 2, 1) := by decide +kernel
theorem g138_7 : m_get 138 7 = some (.invokestatic 81, 3) := by decide +kernel
theorem g138_10 : m_get 138 10 = some (.ifCond .ne 5, 3) := by decide +kernel
theorem g138_13 : m_get 138 13 = some (.iconst (-1), 1) := by decide +kernel
theorem g138_14 : m_get 138 14 = some (.ireturn, 1) := by decide +kernel
theorem g138_15 : m_get 138 15 = some (.aload_n 0, 1) := by decide +kernel
theorem g138_16 : m_get 138 16 = some (.iload_n 1, 1) := by decide +kernel
theorem g138_17 : m_get 138 17 = some (.invokevirtual 173, 3) := by decide +kernel
theorem g138_20 : m_get 138 20 = some (.istore_n 3, 1) := by decide +kernel
theorem g138_21 : m_get 138 21 = some (.iload_n 3, 1) := by decide +kernel
theorem g138_22 : m_get 138 22 = some (.bipush (-9), 2) := by decide +kernel
theorem g138_24 : m_get 138 24 = some (.if_icmp .eq 7, 3) := by decide +kernel
theorem g138_27 : m_get 138 27 = some (.iload_n 2, 1) := by decide +kernel
theorem g138_28 : m_get 138 28 = some (.ifCond .ne 5, 3) := by decide +kernel
theorem g138_31 : m_get 138 31 = some (.iload_n 3, 1) := by decide +kernel
theorem g138_32 : m_get 138 32 = some (.ireturn, 1) := by decide +kernel
theorem g138_33 : m_get 138 33 = some (.aload_n 0, 1) := by decide +kernel
theorem g138_34 : m_get 138 34 = some (.invokevirtual 140, 3) := by decide +kernel
theorem g138_37 : m_get 138 37 = some (.iconst 0, 1) := by decide +kernel
theorem g138_38 : m_get 138 38 = some (.istore 4, 2) := by decide +kernel
theorem g138_40 : m_get 138 40 = some (.iconst 0, 1) := by decide +kernel
theorem g138_41 : m_get 138 41 = some (.istore 5, 2) := by decide +kernel
theorem g138_43 : m_get 138 43 = some (.iload 5, 2) := by decide +kernel
theorem g138_45 : m_get 138 45 = some (.aload_n 0, 1) := by decide +kernel
theorem g138_46 : m_get 138 46 = some (.getfield 75, 3) := by decide +kernel
theorem g138_49 : m_get 138 49 = some (.if_icmp .ge 29, 3) := by decide +kernel
theorem g138_52 : m_get 138 52 = some (.iload 4, 2) := by decide +kernel
theorem g138_54 : m_get 138 54 = some (.aload_n 0, 1) := by decide +kernel
theorem g138_55 : m_get 138 55 = some (.iload 5, 2) := by decide +kernel
theorem g138_57 : m_get 138 57 = some (.invokevirtual 123, 3) := by decide +kernel
theorem g138_60 : m_get 138 60 = some (.iload_n 3, 1) := by decide +kernel
theorem g138_61 : m_get 138 61 = some (.if_icmp .ne 7, 3) := by decide +kernel
theorem g138_64 : m_get 138 64 = some (.iconst 1, 1) := by decide +kernel
theorem g138_65 : m_get 138 65 = some (.goto 4, 3) := by decide +kernel
theorem g138_68 : m_get 138 68 = some (.iconst 0, 1) := by decide +kernel
theorem g138_69 : m_get 138 69 = some (.iadd, 1) := by decide +kernel
theorem g138_70 : m_get 138 70 = some (.istore 4, 2) := by decide +kernel
theorem g138_72 : m_get 138 72 = some (.iinc 5 1, 3) := by decide +kernel
theorem g138_75 : m_get 138 75 = some (.goto (-32), 3) := by decide +kernel
theorem g138_78 : m_get 138 78 = some (.iload_n 2, 1) := by decide +kernel
theorem g138_79 : m_get 138 79 = some (.iconst 1, 1) := by decide +kernel
theorem g138_80 : m_get 138 80 = some (.if_icmp .ne 8, 3) := by decide +kernel
theorem g138_83 : m_get 138 83 = some (.iload 4, 2) := by decide +kernel
theorem g138_85 : m_get 138 85 = some (.goto 8, 3) := by decide +kernel
theorem g138_88 : m_get 138 88 = some (.aload_n 0, 1) := by decide +kernel
theorem g138_89 : m_get 138 89 = some (.iload_n 3, 1) := by decide +kernel
theorem g138_90 : m_get 138 90 = some (.invokevirtual 133, 3) := by decide +kernel
theorem g138_93 : m_get 138 93 = some (.ireturn, 1) := by decide +kernel
theorem f138_75 : m_fl (m_own 138) 75 = some (7, 0) := by decide +kernel
theorem k138_81 : m_ml (m_own 138) 81 = some (1, 97) := by decide +kernel
theorem k138_123 : m_ml (m_own 138) 123 = some (0, 115) := by decide +kernel
theorem k138_133 : m_ml (m_own 138) 133 = some (0, 118) := by decide +kernel
theorem k138_140 : m_ml (m_own 138) 140 = some (0, 116) := by decide +kernel
theorem k138_173 : m_ml (m_own 138) 173 = some (0, 137) := by decide +kernel
theorem g139_0 : m_get 139 0 = some (.aload_n 0, 1) := by decide +kernel
theorem g139_1 : m_get 139 1 = some (.iconst 0, 1) := by decide +kernel
theorem g139_2 : m_get 139 2 = some (.putfield 176, 3) := by decide +kernel
theorem g139_5 : m_get 139 5 = some (.iconst 0, 1) := by decide +kernel
theorem g139_6 : m_get 139 6 = some (.istore_n 1, 1) := by decide +kernel
theorem g139_7 : m_get 139 7 = some (.iload_n 1, 1) := by decide +kernel
theorem g139_8 : m_get 139 8 = some (.aload_n 0, 1) := by decide +kernel
theorem g139_9 : m_get 139 9 = some (.invokevirtual 116, 3) := by decide +kernel
theorem g139_12 : m_get 139 12 = some (.if_icmp .ge 40, 3) := by decide +kernel
theorem g139_15 : m_get 139 15 = some (.aload_n 0, 1) := by decide +kernel
theorem g139_16 : m_get 139 16 = some (.getfield 41, 3) := by decide +kernel
theorem g139_19 : m_get 139 19 = some (.iload_n 1, 1) := by decide +kernel
theorem g139_20 : m_get 139 20 = some (.iaload, 1) := by decide +kernel
theorem g139_21 : m_get 139 21 = some (.bipush (-9), 2) := by decide +kernel
theorem g139_23 : m_get 139 23 = some (.if_icmp .ne 23, 3) := by decide +kernel
theorem g139_26 : m_get 139 26 = some (.aload_n 0, 1) := by decide +kernel
theorem g139_27 : m_get 139 27 = some (.getfield 47, 3) := by decide +kernel
theorem g139_30 : m_get 139 30 = some (.aload_n 0, 1) := by decide +kernel
theorem g139_31 : m_get 139 31 = some (.getfield 176, 3) := by decide +kernel
theorem g139_34 : m_get 139 34 = some (.iload_n 1, 1) := by decide +kernel
theorem g139_35 : m_get 139 35 = some (.iastore, 1) := by decide +kernel
theorem g139_36 : m_get 139 36 = some (.aload_n 0, 1) := by decide +kernel
theorem g139_37 : m_get 139 37 = some (.dup, 1) := by decide +kernel
theorem g139_38 : m_get 139 38 = some (.getfield 176, 3) := by decide +kernel
theorem g139_41 : m_get 139 41 = some (.iconst 1, 1) := by decide +kernel
theorem g139_42 : m_get 139 42 = some (.iadd, 1) := by decide +kernel
theorem g139_43 : m_get 139 43 = some (.putfield 176, 3) := by decide +kernel
theorem g139_46 : m_get 139 46 = some (.iinc 1 1, 3) := by decide +kernel
theorem g139_49 : m_get 139 49 = some (.goto (-42), 3) := by decide +kernel
theorem g139_52 : m_get 139 52 = some (.aload_n 0, 1) := by decide +kernel
theorem g139_53 : m_get 139 53 = some (.iconst 0, 1) := by decide +kernel
theorem g139_54 : m_get 139 54 = some (.putfield 179, 3) := by decide +kernel
theorem g139_57 : m_get 139 57 = some (.aload_n 0, 1) := by decide +kernel
theorem g139_58 : m_get 139 58 = some (.getfield 50, 3) := by decide +kernel
theorem g139_61 : m_get 139 61 = some (.iconst 0, 1) := by decide +kernel
theorem g139_62 : m_get 139 62 = some (.iconst (-1), 1) := by decide +kernel
theorem g139_63 : m_get 139 63 = some (.iastore, 1) := by decide +kernel
theorem g139_64 : m_get 139 64 = some (.aload_n 0, 1) := by decide +kernel
theorem g139_65 : m_get 139 65 = some (.iconst 0, 1) := by decide +kernel
theorem g139_66 : m_get 139 66 = some (.putfield 182, 3) := by decide +kernel
theorem g139_69 : m_get 139 69 = some (.aload_n 0, 1) := by decide +kernel
theorem g139_70 : m_get 139 70 = some (.bipush (-9), 2) := by decide +kernel
theorem g139_72 : m_get 139 72 = some (.putfield 186, 3) := by decide +kernel
theorem g139_75 : m_get 139 75 = some (.aload_n 0, 1) := by decide +kernel
theorem g139_76 : m_get 139 76 = some (.bipush (-9), 2) := by decide +kernel
theorem g139_78 : m_get 139 78 = some (.putfield 189, 3) := by decide +kernel
theorem g139_81 : m_get 139 81 = some (.return_, 1) := by decide +kernel
theorem f139_41 : m_fl (m_own 139) 41 = some (7, 17) := by decide +kernel
theorem f139_47 : m_fl (m_own 139) 47 = some (7, 20) := by decide +kernel
theorem f139_50 : m_fl (m_own 139) 50 = some (7, 21) := by decide +kernel
theorem f139_176 : m_fl (m_own 139) 176 = some (7, 19) := by decide +kernel
theorem f139_179 : m_fl (m_own 139) 179 = some (7, 22) := by decide +kernel
theorem f139_182 : m_fl (m_own 139) 182 = some (7, 23) := by decide +kernel
theorem f139_186 : m_fl (m_own 139) 186 = some (7, 24) := by decide +kernel
theorem f139_189 : m_fl (m_own 139) 189 = some (7, 25) := by decide +kernel
theorem k139_116 : m_ml (m_own 139) 116 = some (0, 111) := by decide +kernel
theorem g140_0 : m_get 140 0 = some (.aload_n 0, 1) := by decide +kernel
theorem g140_1 : m_get 140 1 = some (.iload_n 2, 1) := by decide +kernel
theorem g140_2 : m_get 140 2 = some (.invokevirtual 146, 3) := by decide +kernel
theorem g140_5 : m_get 140 5 = some (.ifCond .eq 32, 3) := by decide +kernel
theorem g140_8 : m_get 140 8 = some (.iload_n 1, 1) := by decide +kernel
theorem g140_9 : m_get 140 9 = some (.aload_n 0, 1) := by decide +kernel
theorem g140_10 : m_get 140 10 = some (.getfield 186, 3) := by decide +kernel
theorem g140_13 : m_get 140 13 = some (.if_icmp .ne 11, 3) := by decide +kernel
theorem g140_16 : m_get 140 16 = some (.iload_n 2, 1) := by decide +kernel
theorem g140_17 : m_get 140 17 = some (.aload_n 0, 1) := by decide +kernel
theorem g140_18 : m_get 140 18 = some (.getfield 189, 3) := by decide +kernel
theorem g140_21 : m_get 140 21 = some (.if_icmp .eq 16, 3) := by decide +kernel
theorem g140_24 : m_get 140 24 = some (.aload_n 0, 1) := by decide +kernel
theorem g140_25 : m_get 140 25 = some (.iload_n 1, 1) := by decide +kernel
theorem g140_26 : m_get 140 26 = some (.iload_n 2, 1) := by decide +kernel
theorem g140_27 : m_get 140 27 = some (.invokevirtual 152, 3) := by decide +kernel
theorem g140_30 : m_get 140 30 = some (.ifCond .ne 7, 3) := by decide +kernel
theorem g140_33 : m_get 140 33 = some (.iconst 1, 1) := by decide +kernel
theorem g140_34 : m_get 140 34 = some (.goto 4, 3) := by decide +kernel
theorem g140_37 : m_get 140 37 = some (.iconst 0, 1) := by decide +kernel
theorem g140_38 : m_get 140 38 = some (.ireturn, 1) := by decide +kernel
theorem f140_186 : m_fl (m_own 140) 186 = some (7, 24) := by decide +kernel
theorem f140_189 : m_fl (m_own 140) 189 = some (7, 25) := by decide +kernel
theorem k140_146 : m_ml (m_own 140) 146 = some (0, 114) := by decide +kernel
theorem k140_152 : m_ml (m_own 140) 152 = some (0, 120) := by decide +kernel
theorem g141_0 : m_get 141 0 = some (.aload_n 0, 1) := by decide +kernel
theorem g141_1 : m_get 141 1 = some (.dup, 1) := by decide +kernel
theorem g141_2 : m_get 141 2 = some (.getfield 179, 3) := by decide +kernel
theorem g141_5 : m_get 141 5 = some (.aload_n 0, 1) := by decide +kernel
theorem g141_6 : m_get 141 6 = some (.getfield 182, 3) := by decide +kernel
theorem g141_9 : m_get 141 9 = some (.ifCond .eq 7, 3) := by decide +kernel
theorem g141_12 : m_get 141 12 = some (.iconst 1, 1) := by decide +kernel
theorem g141_13 : m_get 141 13 = some (.goto 4, 3) := by decide +kernel
theorem g141_16 : m_get 141 16 = some (.iconst 0, 1) := by decide +kernel
theorem g141_17 : m_get 141 17 = some (.isub, 1) := by decide +kernel
theorem g141_18 : m_get 141 18 = some (.putfield 179, 3) := by decide +kernel
theorem g141_21 : m_get 141 21 = some (.aload_n 0, 1) := by decide +kernel
theorem g141_22 : m_get 141 22 = some (.iconst 0, 1) := by decide +kernel
theorem g141_23 : m_get 141 23 = some (.putfield 182, 3) := by decide +kernel
theorem g141_26 : m_get 141 26 = some (.aload_n 0, 1) := by decide +kernel
theorem g141_27 : m_get 141 27 = some (.getfield 179, 3) := by decide +kernel
theorem g141_30 : m_get 141 30 = some (.ifCond .lt 158, 3) := by decide +kernel
theorem g141_33 : m_get 141 33 = some (.aload_n 0, 1) := by decide +kernel
theorem g141_34 : m_get 141 34 = some (.getfield 182, 3) := by decide +kernel
theorem g141_37 : m_get 141 37 = some (.ifCond .ne 151, 3) := by decide +kernel
theorem g141_40 : m_get 141 40 = some (.aload_n 0, 1) := by decide +kernel
theorem g141_41 : m_get 141 41 = some (.getfield 179, 3) := by decide +kernel
theorem g141_44 : m_get 141 44 = some (.aload_n 0, 1) := by decide +kernel
theorem g141_45 : m_get 141 45 = some (.getfield 176, 3) := by decide +kernel
theorem g141_48 : m_get 141 48 = some (.if_icmp .ne 11, 3) := by decide +kernel
theorem g141_51 : m_get 141 51 = some (.aload_n 0, 1) := by decide +kernel
theorem g141_52 : m_get 141 52 = some (.iconst 1, 1) := by decide +kernel
theorem g141_53 : m_get 141 53 = some (.putfield 182, 3) := by decide +kernel
theorem g141_56 : m_get 141 56 = some (.goto (-30), 3) := by decide +kernel
theorem g141_59 : m_get 141 59 = some (.aload_n 0, 1) := by decide +kernel
theorem g141_60 : m_get 141 60 = some (.getfield 47, 3) := by decide +kernel
theorem g141_63 : m_get 141 63 = some (.aload_n 0, 1) := by decide +kernel
theorem g141_64 : m_get 141 64 = some (.getfield 179, 3) := by decide +kernel
theorem g141_67 : m_get 141 67 = some (.iaload, 1) := by decide +kernel
theorem g141_68 : m_get 141 68 = some (.istore_n 1, 1) := by decide +kernel
theorem g141_69 : m_get 141 69 = some (.aload_n 0, 1) := by decide +kernel
theorem g141_70 : m_get 141 70 = some (.getfield 41, 3) := by decide +kernel
theorem g141_73 : m_get 141 73 = some (.iload_n 1, 1) := by decide +kernel
theorem g141_74 : m_get 141 74 = some (.bipush (-9), 2) := by decide +kernel
theorem g141_76 : m_get 141 76 = some (.iastore, 1) := by decide +kernel
theorem g141_77 : m_get 141 77 = some (.aload_n 0, 1) := by decide +kernel
theorem g141_78 : m_get 141 78 = some (.getfield 50, 3) := by decide +kernel
theorem g141_81 : m_get 141 81 = some (.aload_n 0, 1) := by decide +kernel
theorem g141_82 : m_get 141 82 = some (.getfield 179, 3) := by decide +kernel
theorem g141_85 : m_get 141 85 = some (.iaload, 1) := by decide +kernel
theorem g141_86 : m_get 141 86 = some (.iconst 1, 1) := by decide +kernel
theorem g141_87 : m_get 141 87 = some (.iadd, 1) := by decide +kernel
theorem g141_88 : m_get 141 88 = some (.istore_n 2, 1) := by decide +kernel
theorem g141_89 : m_get 141 89 = some (.iload_n 2, 1) := by decide +kernel
theorem g141_90 : m_get 141 90 = some (.iconst 4, 1) := by decide +kernel
theorem g141_91 : m_get 141 91 = some (.aload_n 0, 1) := by decide +kernel
theorem g141_92 : m_get 141 92 = some (.getfield 75, 3) := by decide +kernel
theorem g141_95 : m_get 141 95 = some (.imul, 1) := by decide +kernel
theorem g141_96 : m_get 141 96 = some (.if_icmp .ge 18, 3) := by decide +kernel
theorem g141_99 : m_get 141 99 = some (.aload_n 0, 1) := by decide +kernel
theorem g141_100 : m_get 141 100 = some (.iload_n 1, 1) := by decide +kernel
theorem g141_101 : m_get 141 101 = some (.iload_n 2, 1) := by decide +kernel
theorem g141_102 : m_get 141 102 = some (.invokevirtual 192, 3) := by decide +kernel
theorem g141_105 : m_get 141 105 = some (.ifCond .ne 9, 3) := by decide +kernel
theorem g141_108 : m_get 141 108 = some (.iinc 2 1, 3) := by decide +kernel
theorem g141_111 : m_get 141 111 = some (.goto (-22), 3) := by decide +kernel
theorem g141_114 : m_get 141 114 = some (.iload_n 2, 1) := by decide +kernel
theorem g141_115 : m_get 141 115 = some (.iconst 4, 1) := by decide +kernel
theorem g141_116 : m_get 141 116 = some (.aload_n 0, 1) := by decide +kernel
theorem g141_117 : m_get 141 117 = some (.getfield 75, 3) := by decide +kernel
theorem g141_120 : m_get 141 120 = some (.imul, 1) := by decide +kernel
theorem g141_121 : m_get 141 121 = some (.if_icmp .ne 16, 3) := by decide +kernel
theorem g141_124 : m_get 141 124 = some (.aload_n 0, 1) := by decide +kernel
theorem g141_125 : m_get 141 125 = some (.dup, 1) := by decide +kernel
theorem g141_126 : m_get 141 126 = some (.getfield 179, 3) := by decide +kernel
theorem g141_129 : m_get 141 129 = some (.iconst 1, 1) := by decide +kernel
theorem g141_130 : m_get 141 130 = some (.isub, 1) := by decide +kernel
theorem g141_131 : m_get 141 131 = some (.putfield 179, 3) := by decide +kernel
theorem g141_134 : m_get 141 134 = some (.goto 51, 3) := by decide +kernel
theorem g141_137 : m_get 141 137 = some (.aload_n 0, 1) := by decide +kernel
theorem g141_138 : m_get 141 138 = some (.getfield 50, 3) := by decide +kernel
theorem g141_141 : m_get 141 141 = some (.aload_n 0, 1) := by decide +kernel
theorem g141_142 : m_get 141 142 = some (.getfield 179, 3) := by decide +kernel
theorem g141_145 : m_get 141 145 = some (.iload_n 2, 1) := by decide +kernel
theorem g141_146 : m_get 141 146 = some (.iastore, 1) := by decide +kernel
theorem g141_147 : m_get 141 147 = some (.aload_n 0, 1) := by decide +kernel
theorem g141_148 : m_get 141 148 = some (.getfield 41, 3) := by decide +kernel
theorem g141_151 : m_get 141 151 = some (.iload_n 1, 1) := by decide +kernel
theorem g141_152 : m_get 141 152 = some (.iload_n 2, 1) := by decide +kernel
theorem g141_153 : m_get 141 153 = some (.iastore, 1) := by decide +kernel
theorem g141_154 : m_get 141 154 = some (.aload_n 0, 1) := by decide +kernel
theorem g141_155 : m_get 141 155 = some (.dup, 1) := by decide +kernel
theorem g141_156 : m_get 141 156 = some (.getfield 179, 3) := by decide +kernel
theorem g141_159 : m_get 141 159 = some (.iconst 1, 1) := by decide +kernel
theorem g141_160 : m_get 141 160 = some (.iadd, 1) := by decide +kernel
theorem g141_161 : m_get 141 161 = some (.putfield 179, 3) := by decide +kernel
theorem g141_164 : m_get 141 164 = some (.aload_n 0, 1) := by decide +kernel
theorem g141_165 : m_get 141 165 = some (.getfield 179, 3) := by decide +kernel
theorem g141_168 : m_get 141 168 = some (.aload_n 0, 1) := by decide +kernel
theorem g141_169 : m_get 141 169 = some (.getfield 176, 3) := by decide +kernel
theorem g141_172 : m_get 141 172 = some (.if_icmp .ge 13, 3) := by decide +kernel
theorem g141_175 : m_get 141 175 = some (.aload_n 0, 1) := by decide +kernel
theorem g141_176 : m_get 141 176 = some (.getfield 50, 3) := by decide +kernel
theorem g141_179 : m_get 141 179 = some (.aload_n 0, 1) := by decide +kernel
theorem g141_180 : m_get 141 180 = some (.getfield 179, 3) := by decide +kernel
theorem g141_183 : m_get 141 183 = some (.iconst (-1), 1) := by decide +kernel
theorem g141_184 : m_get 141 184 = some (.iastore, 1) := by decide +kernel
theorem g141_185 : m_get 141 185 = some (.goto (-159), 3) := by decide +kernel
theorem g141_188 : m_get 141 188 = some (.aload_n 0, 1) := by decide +kernel
theorem g141_189 : m_get 141 189 = some (.getfield 182, 3) := by decide +kernel
theorem g141_192 : m_get 141 192 = some (.ireturn, 1) := by decide +kernel
theorem f141_41 : m_fl (m_own 141) 41 = some (7, 17) := by decide +kernel
theorem f141_47 : m_fl (m_own 141) 47 = some (7, 20) := by decide +kernel
theorem f141_50 : m_fl (m_own 141) 50 = some (7, 21) := by decide +kernel
theorem f141_75 : m_fl (m_own 141) 75 = some (7, 0) := by decide +kernel
theorem f141_176 : m_fl (m_own 141) 176 = some (7, 19) := by decide +kernel
theorem f141_179 : m_fl (m_own 141) 179 = some (7, 22) := by decide +kernel
theorem f141_182 : m_fl (m_own 141) 182 = some (7, 23) := by decide +kernel
theorem k141_192 : m_ml (m_own 141) 192 = some (0, 140) := by decide +kernel
theorem g142_0 : m_get 142 0 = some (.iload_n 1, 1) := by decide +kernel
theorem g142_1 : m_get 142 1 = some (.iconst 1, 1) := by decide +kernel
theorem g142_2 : m_get 142 2 = some (.sipush 300, 3) := by decide +kernel
theorem g142_5 : m_get 142 5 = some (.invokestatic 81, 3) := by decide +kernel
theorem g142_8 : m_get 142 8 = some (.ifCond .ne 5, 3) := by decide +kernel
theorem g142_11 : m_get 142 11 = some (.iconst (-1), 1) := by decide +kernel
theorem g142_12 : m_get 142 12 = some (.ireturn, 1) := by decide +kernel
theorem g142_13 : m_get 142 13 = some (.aload_n 0, 1) := by decide +kernel
theorem g142_14 : m_get 142 14 = some (.invokevirtual 140, 3) := by decide +kernel
theorem g142_17 : m_get 142 17 = some (.aload_n 0, 1) := by decide +kernel
theorem g142_18 : m_get 142 18 = some (.invokevirtual 195, 3) := by decide +kernel
theorem g142_21 : m_get 142 21 = some (.iconst 0, 1) := by decide +kernel
theorem g142_22 : m_get 142 22 = some (.istore_n 2, 1) := by decide +kernel
theorem g142_23 : m_get 142 23 = some (.iload_n 2, 1) := by decide +kernel
theorem g142_24 : m_get 142 24 = some (.iload_n 1, 1) := by decide +kernel
theorem g142_25 : m_get 142 25 = some (.if_icmp .ge 16, 3) := by decide +kernel
theorem g142_28 : m_get 142 28 = some (.aload_n 0, 1) := by decide +kernel
theorem g142_29 : m_get 142 29 = some (.invokevirtual 198, 3) := by decide +kernel
theorem g142_32 : m_get 142 32 = some (.ifCond .eq 9, 3) := by decide +kernel
theorem g142_35 : m_get 142 35 = some (.iinc 2 1, 3) := by decide +kernel
theorem g142_38 : m_get 142 38 = some (.goto (-15), 3) := by decide +kernel
theorem g142_41 : m_get 142 41 = some (.iload_n 2, 1) := by decide +kernel
theorem g142_42 : m_get 142 42 = some (.ireturn, 1) := by decide +kernel
theorem k142_81 : m_ml (m_own 142) 81 = some (1, 97) := by decide +kernel
theorem k142_140 : m_ml (m_own 142) 140 = some (0, 116) := by decide +kernel
theorem k142_195 : m_ml (m_own 142) 195 = some (0, 139) := by decide +kernel
theorem k142_198 : m_ml (m_own 142) 198 = some (0, 141) := by decide +kernel
theorem g143_0 : m_get 143 0 = some (.iload_n 1, 1) := by decide +kernel
theorem g143_1 : m_get 143 1 = some (.iconst 0, 1) := by decide +kernel
theorem g143_2 : m_get 143 2 = some (.sipush 299, 3) := by decide +kernel
theorem g143_5 : m_get 143 5 = some (.invokestatic 81, 3) := by decide +kernel
theorem g143_8 : m_get 143 8 = some (.ifCond .eq 11, 3) := by decide +kernel
theorem g143_11 : m_get 143 11 = some (.aload_n 0, 1) := by decide +kernel
theorem g143_12 : m_get 143 12 = some (.iload_n 2, 1) := by decide +kernel
theorem g143_13 : m_get 143 13 = some (.invokevirtual 149, 3) := by decide +kernel
theorem g143_16 : m_get 143 16 = some (.ifCond .ne 5, 3) := by decide +kernel
theorem g143_19 : m_get 143 19 = some (.iconst (-1), 1) := by decide +kernel
theorem g143_20 : m_get 143 20 = some (.ireturn, 1) := by decide +kernel
theorem g143_21 : m_get 143 21 = some (.aload_n 0, 1) := by decide +kernel
theorem g143_22 : m_get 143 22 = some (.invokevirtual 140, 3) := by decide +kernel
theorem g143_25 : m_get 143 25 = some (.aload_n 0, 1) := by decide +kernel
theorem g143_26 : m_get 143 26 = some (.invokevirtual 195, 3) := by decide +kernel
theorem g143_29 : m_get 143 29 = some (.iconst 0, 1) := by decide +kernel
theorem g143_30 : m_get 143 30 = some (.istore_n 3, 1) := by decide +kernel
theorem g143_31 : m_get 143 31 = some (.iload_n 3, 1) := by decide +kernel
theorem g143_32 : m_get 143 32 = some (.iload_n 1, 1) := by decide +kernel
theorem g143_33 : m_get 143 33 = some (.if_icmp .gt 19, 3) := by decide +kernel
theorem g143_36 : m_get 143 36 = some (.aload_n 0, 1) := by decide +kernel
theorem g143_37 : m_get 143 37 = some (.invokevirtual 198, 3) := by decide +kernel
theorem g143_40 : m_get 143 40 = some (.ifCond .ne 6, 3) := by decide +kernel
theorem g143_43 : m_get 143 43 = some (.bipush (-9), 2) := by decide +kernel
theorem g143_45 : m_get 143 45 = some (.ireturn, 1) := by decide +kernel
theorem g143_46 : m_get 143 46 = some (.iinc 3 1, 3) := by decide +kernel
theorem g143_49 : m_get 143 49 = some (.goto (-18), 3) := by decide +kernel
theorem g143_52 : m_get 143 52 = some (.aload_n 0, 1) := by decide +kernel
theorem g143_53 : m_get 143 53 = some (.getfield 41, 3) := by decide +kernel
theorem g143_56 : m_get 143 56 = some (.iload_n 2, 1) := by decide +kernel
theorem g143_57 : m_get 143 57 = some (.iaload, 1) := by decide +kernel
theorem g143_58 : m_get 143 58 = some (.ireturn, 1) := by decide +kernel
theorem f143_41 : m_fl (m_own 143) 41 = some (7, 17) := by decide +kernel
theorem k143_81 : m_ml (m_own 143) 81 = some (1, 97) := by decide +kernel
theorem k143_140 : m_ml (m_own 143) 140 = some (0, 116) := by decide +kernel
theorem k143_149 : m_ml (m_own 143) 149 = some (0, 112) := by decide +kernel
theorem k143_195 : m_ml (m_own 143) 195 = some (0, 139) := by decide +kernel
theorem k143_198 : m_ml (m_own 143) 198 = some (0, 141) := by decide +kernel
theorem g144_0 : m_get 144 0 = some (.aload_n 0, 1) := by decide +kernel
theorem g144_1 : m_get 144 1 = some (.invokevirtual 140, 3) := by decide +kernel
theorem g144_4 : m_get 144 4 = some (.aload_n 0, 1) := by decide +kernel
theorem g144_5 : m_get 144 5 = some (.invokevirtual 195, 3) := by decide +kernel
theorem g144_8 : m_get 144 8 = some (.aload_n 0, 1) := by decide +kernel
theorem g144_9 : m_get 144 9 = some (.invokevirtual 198, 3) := by decide +kernel
theorem g144_12 : m_get 144 12 = some (.ifCond .ne 5, 3) := by decide +kernel
theorem g144_15 : m_get 144 15 = some (.iconst 0, 1) := by decide +kernel
theorem g144_16 : m_get 144 16 = some (.ireturn, 1) := by decide +kernel
theorem g144_17 : m_get 144 17 = some (.iconst 0, 1) := by decide +kernel
theorem g144_18 : m_get 144 18 = some (.istore_n 1, 1) := by decide +kernel
theorem g144_19 : m_get 144 19 = some (.iload_n 1, 1) := by decide +kernel
theorem g144_20 : m_get 144 20 = some (.aload_n 0, 1) := by decide +kernel
theorem g144_21 : m_get 144 21 = some (.invokevirtual 116, 3) := by decide +kernel
theorem g144_24 : m_get 144 24 = some (.if_icmp .ge 21, 3) := by decide +kernel
theorem g144_27 : m_get 144 27 = some (.aload_n 0, 1) := by decide +kernel
theorem g144_28 : m_get 144 28 = some (.getfield 53, 3) := by decide +kernel
theorem g144_31 : m_get 144 31 = some (.iload_n 1, 1) := by decide +kernel
theorem g144_32 : m_get 144 32 = some (.aload_n 0, 1) := by decide +kernel
theorem g144_33 : m_get 144 33 = some (.getfield 41, 3) := by decide +kernel
theorem g144_36 : m_get 144 36 = some (.iload_n 1, 1) := by decide +kernel
theorem g144_37 : m_get 144 37 = some (.iaload, 1) := by decide +kernel
theorem g144_38 : m_get 144 38 = some (.iastore, 1) := by decide +kernel
theorem g144_39 : m_get 144 39 = some (.iinc 1 1, 3) := by decide +kernel
theorem g144_42 : m_get 144 42 = some (.goto (-23), 3) := by decide +kernel
theorem g144_45 : m_get 144 45 = some (.iconst 0, 1) := by decide +kernel
theorem g144_46 : m_get 144 46 = some (.istore_n 1, 1) := by decide +kernel
theorem g144_47 : m_get 144 47 = some (.iconst 0, 1) := by decide +kernel
theorem g144_48 : m_get 144 48 = some (.istore_n 2, 1) := by decide +kernel
theorem g144_49 : m_get 144 49 = some (.iload_n 2, 1) := by decide +kernel
theorem g144_50 : m_get 144 50 = some (.aload_n 0, 1) := by decide +kernel
theorem g144_51 : m_get 144 51 = some (.invokevirtual 116, 3) := by decide +kernel
theorem g144_54 : m_get 144 54 = some (.if_icmp .ge 60, 3) := by decide +kernel
theorem g144_57 : m_get 144 57 = some (.aload_n 0, 1) := by decide +kernel
theorem g144_58 : m_get 144 58 = some (.getfield 16, 3) := by decide +kernel
theorem g144_61 : m_get 144 61 = some (.iload_n 2, 1) := by decide +kernel
theorem g144_62 : m_get 144 62 = some (.iaload, 1) := by decide +kernel
theorem g144_63 : m_get 144 63 = some (.bipush (-9), 2) := by decide +kernel
theorem g144_65 : m_get 144 65 = some (.if_icmp .ne 43, 3) := by decide +kernel
theorem g144_68 : m_get 144 68 = some (.aload_n 0, 1) := by decide +kernel
theorem g144_69 : m_get 144 69 = some (.invokevirtual 140, 3) := by decide +kernel
theorem g144_72 : m_get 144 72 = some (.aload_n 0, 1) := by decide +kernel
theorem g144_73 : m_get 144 73 = some (.invokevirtual 195, 3) := by decide +kernel
theorem g144_76 : m_get 144 76 = some (.aload_n 0, 1) := by decide +kernel
theorem g144_77 : m_get 144 77 = some (.iload_n 2, 1) := by decide +kernel
theorem g144_78 : m_get 144 78 = some (.putfield 186, 3) := by decide +kernel
theorem g144_81 : m_get 144 81 = some (.aload_n 0, 1) := by decide +kernel
theorem g144_82 : m_get 144 82 = some (.aload_n 0, 1) := by decide +kernel
theorem g144_83 : m_get 144 83 = some (.getfield 53, 3) := by decide +kernel
theorem g144_86 : m_get 144 86 = some (.iload_n 2, 1) := by decide +kernel
theorem g144_87 : m_get 144 87 = some (.iaload, 1) := by decide +kernel
theorem g144_88 : m_get 144 88 = some (.putfield 189, 3) := by decide +kernel
theorem g144_91 : m_get 144 91 = some (.iload_n 1, 1) := by decide +kernel
theorem g144_92 : m_get 144 92 = some (.aload_n 0, 1) := by decide +kernel
theorem g144_93 : m_get 144 93 = some (.invokevirtual 198, 3) := by decide +kernel
theorem g144_96 : m_get 144 96 = some (.ifCond .eq 7, 3) := by decide +kernel
theorem g144_99 : m_get 144 99 = some (.iconst 0, 1) := by decide +kernel
theorem g144_100 : m_get 144 100 = some (.goto 6, 3) := by decide +kernel
theorem g144_103 : m_get 144 103 = some (.iconst 1, 1) := by decide +kernel
theorem g144_104 : m_get 144 104 = some (.iload_n 2, 1) := by decide +kernel
theorem g144_105 : m_get 144 105 = some (.ishl, 1) := by decide +kernel
theorem g144_106 : m_get 144 106 = some (.ior, 1) := by decide +kernel
theorem g144_107 : m_get 144 107 = some (.istore_n 1, 1) := by decide +kernel
theorem g144_108 : m_get 144 108 = some (.iinc 2 1, 3) := by decide +kernel
theorem g144_111 : m_get 144 111 = some (.goto (-62), 3) := by decide +kernel
theorem g144_114 : m_get 144 114 = some (.iload_n 1, 1) := by decide +kernel
theorem g144_115 : m_get 144 115 = some (.ireturn, 1) := by decide +kernel
theorem f144_16 : m_fl (m_own 144) 16 = some (7, 3) := by decide +kernel
theorem f144_41 : m_fl (m_own 144) 41 = some (7, 17) := by decide +kernel
theorem f144_53 : m_fl (m_own 144) 53 = some (7, 26) := by decide +kernel
theorem f144_186 : m_fl (m_own 144) 186 = some (7, 24) := by decide +kernel
theorem f144_189 : m_fl (m_own 144) 189 = some (7, 25) := by decide +kernel
theorem k144_116 : m_ml (m_own 144) 116 = some (0, 111) := by decide +kernel
theorem k144_140 : m_ml (m_own 144) 140 = some (0, 116) := by decide +kernel
theorem k144_195 : m_ml (m_own 144) 195 = some (0, 139) := by decide +kernel
theorem k144_198 : m_ml (m_own 144) 198 = some (0, 141) := by decide +kernel
theorem g145_0 : m_get 145 0 = some (.aload_n 0, 1) := by decide +kernel
theorem g145_1 : m_get 145 1 = some (.invokevirtual 167, 3) := by decide +kernel
theorem g145_4 : m_get 145 4 = some (.bipush (-9), 2) := by decide +kernel
theorem g145_6 : m_get 145 6 = some (.istore_n 1, 1) := by decide +kernel
theorem g145_7 : m_get 145 7 = some (.iconst 0, 1) := by decide +kernel
theorem g145_8 : m_get 145 8 = some (.istore_n 2, 1) := by decide +kernel
theorem g145_9 : m_get 145 9 = some (.iload_n 2, 1) := by decide +kernel
theorem g145_10 : m_get 145 10 = some (.aload_n 0, 1) := by decide +kernel
theorem g145_11 : m_get 145 11 = some (.invokevirtual 116, 3) := by decide +kernel
theorem g145_14 : m_get 145 14 = some (.if_icmp .ge 49, 3) := by decide +kernel
theorem g145_17 : m_get 145 17 = some (.aload_n 0, 1) := by decide +kernel
theorem g145_18 : m_get 145 18 = some (.getfield 16, 3) := by decide +kernel
theorem g145_21 : m_get 145 21 = some (.iload_n 2, 1) := by decide +kernel
theorem g145_22 : m_get 145 22 = some (.iaload, 1) := by decide +kernel
theorem g145_23 : m_get 145 23 = some (.bipush (-9), 2) := by decide +kernel
theorem g145_25 : m_get 145 25 = some (.if_icmp .ne 32, 3) := by decide +kernel
theorem g145_28 : m_get 145 28 = some (.iload_n 1, 1) := by decide +kernel
theorem g145_29 : m_get 145 29 = some (.bipush (-9), 2) := by decide +kernel
theorem g145_31 : m_get 145 31 = some (.if_icmp .eq 24, 3) := by decide +kernel
theorem g145_34 : m_get 145 34 = some (.aload_n 0, 1) := by decide +kernel
theorem g145_35 : m_get 145 35 = some (.getfield 44, 3) := by decide +kernel
theorem g145_38 : m_get 145 38 = some (.iload_n 2, 1) := by decide +kernel
theorem g145_39 : m_get 145 39 = some (.iaload, 1) := by decide +kernel
theorem g145_40 : m_get 145 40 = some (.invokestatic 170, 3) := by decide +kernel
theorem g145_43 : m_get 145 43 = some (.aload_n 0, 1) := by decide +kernel
theorem g145_44 : m_get 145 44 = some (.getfield 44, 3) := by decide +kernel
theorem g145_47 : m_get 145 47 = some (.iload_n 1, 1) := by decide +kernel
theorem g145_48 : m_get 145 48 = some (.iaload, 1) := by decide +kernel
theorem g145_49 : m_get 145 49 = some (.invokestatic 170, 3) := by decide +kernel
theorem g145_52 : m_get 145 52 = some (.if_icmp .ge 5, 3) := by decide +kernel
theorem g145_55 : m_get 145 55 = some (.iload_n 2, 1) := by decide +kernel
theorem g145_56 : m_get 145 56 = some (.istore_n 1, 1) := by decide +kernel
theorem g145_57 : m_get 145 57 = some (.iinc 2 1, 3) := by decide +kernel
theorem g145_60 : m_get 145 60 = some (.goto (-51), 3) := by decide +kernel
theorem g145_63 : m_get 145 63 = some (.iload_n 1, 1) := by decide +kernel
theorem g145_64 : m_get 145 64 = some (.ireturn, 1) := by decide +kernel
theorem f145_16 : m_fl (m_own 145) 16 = some (7, 3) := by decide +kernel
theorem f145_44 : m_fl (m_own 145) 44 = some (7, 18) := by decide +kernel
theorem k145_116 : m_ml (m_own 145) 116 = some (0, 111) := by decide +kernel
theorem k145_167 : m_ml (m_own 145) 167 = some (0, 134) := by decide +kernel
theorem k145_170 : m_ml (m_own 145) 170 = some (1, 135) := by decide +kernel
theorem g146_0 : m_get 146 0 = some (.aload_n 0, 1) := by decide +kernel
theorem g146_1 : m_get 146 1 = some (.iload_n 1, 1) := by decide +kernel
theorem g146_2 : m_get 146 2 = some (.invokevirtual 136, 3) := by decide +kernel
theorem g146_5 : m_get 146 5 = some (.ifCond .ne 5, 3) := by decide +kernel
theorem g146_8 : m_get 146 8 = some (.iconst (-1), 1) := by decide +kernel
theorem g146_9 : m_get 146 9 = some (.ireturn, 1) := by decide +kernel
theorem g146_10 : m_get 146 10 = some (.iconst 0, 1) := by decide +kernel
theorem g146_11 : m_get 146 11 = some (.istore_n 2, 1) := by decide +kernel
theorem g146_12 : m_get 146 12 = some (.iload_n 2, 1) := by decide +kernel
theorem g146_13 : m_get 146 13 = some (.bipush 10, 2) := by decide +kernel
theorem g146_15 : m_get 146 15 = some (.if_icmp .ge 36, 3) := by decide +kernel
theorem g146_18 : m_get 146 18 = some (.aload_n 0, 1) := by decide +kernel
theorem g146_19 : m_get 146 19 = some (.invokevirtual 140, 3) := by decide +kernel
theorem g146_22 : m_get 146 22 = some (.aload_n 0, 1) := by decide +kernel
theorem g146_23 : m_get 146 23 = some (.getfield 41, 3) := by decide +kernel
theorem g146_26 : m_get 146 26 = some (.bipush 9, 2) := by decide +kernel
theorem g146_28 : m_get 146 28 = some (.iload_n 1, 1) := by decide +kernel
theorem g146_29 : m_get 146 29 = some (.iadd, 1) := by decide +kernel
theorem g146_30 : m_get 146 30 = some (.iload_n 2, 1) := by decide +kernel
theorem g146_31 : m_get 146 31 = some (.iastore, 1) := by decide +kernel
theorem g146_32 : m_get 146 32 = some (.aload_n 0, 1) := by decide +kernel
theorem g146_33 : m_get 146 33 = some (.invokevirtual 195, 3) := by decide +kernel
theorem g146_36 : m_get 146 36 = some (.aload_n 0, 1) := by decide +kernel
theorem g146_37 : m_get 146 37 = some (.invokevirtual 198, 3) := by decide +kernel
theorem g146_40 : m_get 146 40 = some (.ifCond .eq 5, 3) := by decide +kernel
theorem g146_43 : m_get 146 43 = some (.iload_n 2, 1) := by decide +kernel
theorem g146_44 : m_get 146 44 = some (.ireturn, 1) := by decide +kernel
theorem g146_45 : m_get 146 45 = some (.iinc 2 1, 3) := by decide +kernel
theorem g146_48 : m_get 146 48 = some (.goto (-36), 3) := by decide +kernel
theorem g146_51 : m_get 146 51 = some (.bipush (-9), 2) := by decide +kernel
theorem g146_53 : m_get 146 53 = some (.ireturn, 1) := by decide +kernel
theorem f146_41 : m_fl (m_own 146) 41 = some (7, 17) := by decide +kernel
theorem k146_136 : m_ml (m_own 146) 136 = some (0, 109) := by decide +kernel
theorem k146_140 : m_ml (m_own 146) 140 = some (0, 116) := by decide +kernel
theorem k146_195 : m_ml (m_own 146) 195 = some (0, 139) := by decide +kernel
theorem k146_198 : m_ml (m_own 146) 198 = some (0, 141) := by decide +kernel
theorem g147_0 : m_get 147 0 = some (.aload_n 0, 1) := by decide +kernel
theorem g147_1 : m_get 147 1 = some (.getfield 7, 3) := by decide +kernel
theorem g147_4 : m_get 147 4 = some (.iconst 5, 1) := by decide +kernel
theorem g147_5 : m_get 147 5 = some (.iaload, 1) := by decide +kernel
theorem g147_6 : m_get 147 6 = some (.istore_n 3, 1) := by decide +kernel
theorem g147_7 : m_get 147 7 = some (.iload_n 1, 1) := by decide +kernel
theorem g147_8 : m_get 147 8 = some (.ifCond .ne 12, 3) := by decide +kernel
theorem g147_11 : m_get 147 11 = some (.aload_n 0, 1) := by decide +kernel
theorem g147_12 : m_get 147 12 = some (.getfield 7, 3) := by decide +kernel
theorem g147_15 : m_get 147 15 = some (.iconst 4, 1) := by decide +kernel
theorem g147_16 : m_get 147 16 = some (.iaload, 1) := by decide +kernel
theorem g147_17 : m_get 147 17 = some (.goto 4, 3) := by decide +kernel
theorem g147_20 : m_get 147 20 = some (.iload_n 3, 1) := by decide +kernel
theorem g147_21 : m_get 147 21 = some (.istore 4, 2) := by decide +kernel
theorem g147_23 : m_get 147 23 = some (.iload_n 1, 1) := by decide +kernel
theorem g147_24 : m_get 147 24 = some (.ifCond .ne 12, 3) := by decide +kernel
theorem g147_27 : m_get 147 27 = some (.aload_n 0, 1) := by decide +kernel
theorem g147_28 : m_get 147 28 = some (.getfield 7, 3) := by decide +kernel
theorem g147_31 : m_get 147 31 = some (.iconst 4, 1) := by decide +kernel
theorem g147_32 : m_get 147 32 = some (.iaload, 1) := by decide +kernel
theorem g147_33 : m_get 147 33 = some (.goto 22, 3) := by decide +kernel
theorem g147_36 : m_get 147 36 = some (.aload_n 0, 1) := by decide +kernel
theorem g147_37 : m_get 147 37 = some (.getfield 7, 3) := by decide +kernel
theorem g147_40 : m_get 147 40 = some (.iload_n 1, 1) := by decide +kernel
theorem g147_41 : m_get 147 41 = some (.iconst 1, 1) := by decide +kernel
theorem g147_42 : m_get 147 42 = some (.isub, 1) := by decide +kernel
theorem g147_43 : m_get 147 43 = some (.iaload, 1) := by decide +kernel
theorem g147_44 : m_get 147 44 = some (.aload_n 0, 1) := by decide +kernel
theorem g147_45 : m_get 147 45 = some (.getfield 7, 3) := by decide +kernel
theorem g147_48 : m_get 147 48 = some (.iconst 4, 1) := by decide +kernel
theorem g147_49 : m_get 147 49 = some (.iaload, 1) := by decide +kernel
theorem g147_50 : m_get 147 50 = some (.imul, 1) := by decide +kernel
theorem g147_51 : m_get 147 51 = some (.iconst 2, 1) := by decide +kernel
theorem g147_52 : m_get 147 52 = some (.iload_n 3, 1) := by decide +kernel
theorem g147_53 : m_get 147 53 = some (.imul, 1) := by decide +kernel
theorem g147_54 : m_get 147 54 = some (.iadd, 1) := by decide +kernel
theorem g147_55 : m_get 147 55 = some (.istore 5, 2) := by decide +kernel
theorem g147_57 : m_get 147 57 = some (.iload_n 2, 1) := by decide +kernel
theorem g147_58 : m_get 147 58 = some (.iload 4, 2) := by decide +kernel
theorem g147_60 : m_get 147 60 = some (.iload 5, 2) := by decide +kernel
theorem g147_62 : m_get 147 62 = some (.if_icmp .le 7, 3) := by decide +kernel
theorem g147_65 : m_get 147 65 = some (.iconst 1, 1) := by decide +kernel
theorem g147_66 : m_get 147 66 = some (.goto 4, 3) := by decide +kernel
theorem g147_69 : m_get 147 69 = some (.iconst 0, 1) := by decide +kernel
theorem g147_70 : m_get 147 70 = some (.if_icmp .ne 8, 3) := by decide +kernel
theorem g147_73 : m_get 147 73 = some (.iload 4, 2) := by decide +kernel
theorem g147_75 : m_get 147 75 = some (.goto 5, 3) := by decide +kernel
theorem g147_78 : m_get 147 78 = some (.iload 5, 2) := by decide +kernel
theorem g147_80 : m_get 147 80 = some (.ireturn, 1) := by decide +kernel
theorem f147_7 : m_fl (m_own 147) 7 = some (7, 1) := by decide +kernel
theorem g148_0 : m_get 148 0 = some (.iload_n 1, 1) := by decide +kernel
theorem g148_1 : m_get 148 1 = some (.iload_n 2, 1) := by decide +kernel
theorem g148_2 : m_get 148 2 = some (.if_icmp .ge 7, 3) := by decide +kernel
theorem g148_5 : m_get 148 5 = some (.iload_n 1, 1) := by decide +kernel
theorem g148_6 : m_get 148 6 = some (.goto 4, 3) := by decide +kernel
theorem g148_9 : m_get 148 9 = some (.iload_n 2, 1) := by decide +kernel
theorem g148_10 : m_get 148 10 = some (.istore_n 3, 1) := by decide +kernel
theorem g148_11 : m_get 148 11 = some (.iload_n 1, 1) := by decide +kernel
theorem g148_12 : m_get 148 12 = some (.iload_n 2, 1) := by decide +kernel
theorem g148_13 : m_get 148 13 = some (.if_icmp .ge 7, 3) := by decide +kernel
theorem g148_16 : m_get 148 16 = some (.iload_n 2, 1) := by decide +kernel
theorem g148_17 : m_get 148 17 = some (.goto 4, 3) := by decide +kernel
theorem g148_20 : m_get 148 20 = some (.iload_n 1, 1) := by decide +kernel
theorem g148_21 : m_get 148 21 = some (.istore 4, 2) := by decide +kernel
theorem g148_23 : m_get 148 23 = some (.iconst 0, 1) := by decide +kernel
theorem g148_24 : m_get 148 24 = some (.istore 5, 2) := by decide +kernel
theorem g148_26 : m_get 148 26 = some (.iload 5, 2) := by decide +kernel
theorem g148_28 : m_get 148 28 = some (.iconst 3, 1) := by decide +kernel
theorem g148_29 : m_get 148 29 = some (.if_icmp .ge 35, 3) := by decide +kernel
theorem g148_32 : m_get 148 32 = some (.aload_n 0, 1) := by decide +kernel
theorem g148_33 : m_get 148 33 = some (.iload 5, 2) := by decide +kernel
theorem g148_35 : m_get 148 35 = some (.iconst 0, 1) := by decide +kernel
theorem g148_36 : m_get 148 36 = some (.invokevirtual 201, 3) := by decide +kernel
theorem g148_39 : m_get 148 39 = some (.iload_n 3, 1) := by decide +kernel
theorem g148_40 : m_get 148 40 = some (.if_icmp .ne 18, 3) := by decide +kernel
theorem g148_43 : m_get 148 43 = some (.aload_n 0, 1) := by decide +kernel
theorem g148_44 : m_get 148 44 = some (.iload 5, 2) := by decide +kernel
theorem g148_46 : m_get 148 46 = some (.iconst 1, 1) := by decide +kernel
theorem g148_47 : m_get 148 47 = some (.invokevirtual 201, 3) := by decide +kernel
theorem g148_50 : m_get 148 50 = some (.iload 4, 2) := by decide +kernel
theorem g148_52 : m_get 148 52 = some (.if_icmp .ne 6, 3) := by decide +kernel
theorem g148_55 : m_get 148 55 = some (.iload 5, 2) := by decide +kernel
theorem g148_57 : m_get 148 57 = some (.ireturn, 1) := by decide +kernel
theorem g148_58 : m_get 148 58 = some (.iinc 5 1, 3) := by decide +kernel
theorem g148_61 : m_get 148 61 = some (.goto (-35), 3) := by decide +kernel
theorem g148_64 : m_get 148 64 = some (.bipush (-9), 2) := by decide +kernel
theorem g148_66 : m_get 148 66 = some (.ireturn, 1) := by decide +kernel
theorem k148_201 : m_ml (m_own 148) 201 = some (0, 147) := by decide +kernel
theorem g149_0 : m_get 149 0 = some (.aload_n 0, 1) := by decide +kernel
theorem g149_1 : m_get 149 1 = some (.getfield 56, 3) := by decide +kernel
theorem g149_4 : m_get 149 4 = some (.iload_n 2, 1) := by decide +kernel
theorem g149_5 : m_get 149 5 = some (.iaload, 1) := by decide +kernel
theorem g149_6 : m_get 149 6 = some (.aload_n 0, 1) := by decide +kernel
theorem g149_7 : m_get 149 7 = some (.getfield 56, 3) := by decide +kernel
theorem g149_10 : m_get 149 10 = some (.iload_n 3, 1) := by decide +kernel
theorem g149_11 : m_get 149 11 = some (.iaload, 1) := by decide +kernel
theorem g149_12 : m_get 149 12 = some (.iadd, 1) := by decide +kernel
theorem g149_13 : m_get 149 13 = some (.istore 5, 2) := by decide +kernel
theorem g149_15 : m_get 149 15 = some (.iload 5, 2) := by decide +kernel
theorem g149_17 : m_get 149 17 = some (.aload_n 0, 1) := by decide +kernel
theorem g149_18 : m_get 149 18 = some (.getfield 56, 3) := by decide +kernel
theorem g149_21 : m_get 149 21 = some (.iload_n 1, 1) := by decide +kernel
theorem g149_22 : m_get 149 22 = some (.iaload, 1) := by decide +kernel
theorem g149_23 : m_get 149 23 = some (.if_icmp .le 68, 3) := by decide +kernel
theorem g149_26 : m_get 149 26 = some (.aload_n 0, 1) := by decide +kernel
theorem g149_27 : m_get 149 27 = some (.getfield 56, 3) := by decide +kernel
theorem g149_30 : m_get 149 30 = some (.iload_n 1, 1) := by decide +kernel
theorem g149_31 : m_get 149 31 = some (.iload 5, 2) := by decide +kernel
theorem g149_33 : m_get 149 33 = some (.iastore, 1) := by decide +kernel
theorem g149_34 : m_get 149 34 = some (.aload_n 0, 1) := by decide +kernel
theorem g149_35 : m_get 149 35 = some (.getfield 59, 3) := by decide +kernel
theorem g149_38 : m_get 149 38 = some (.iload_n 1, 1) := by decide +kernel
theorem g149_39 : m_get 149 39 = some (.iload 4, 2) := by decide +kernel
theorem g149_41 : m_get 149 41 = some (.iastore, 1) := by decide +kernel
theorem g149_42 : m_get 149 42 = some (.iconst 0, 1) := by decide +kernel
theorem g149_43 : m_get 149 43 = some (.istore 6, 2) := by decide +kernel
theorem g149_45 : m_get 149 45 = some (.iload 6, 2) := by decide +kernel
theorem g149_47 : m_get 149 47 = some (.iconst 3, 1) := by decide +kernel
theorem g149_48 : m_get 149 48 = some (.if_icmp .ge 43, 3) := by decide +kernel
theorem g149_51 : m_get 149 51 = some (.aload_n 0, 1) := by decide +kernel
theorem g149_52 : m_get 149 52 = some (.getfield 62, 3) := by decide +kernel
theorem g149_55 : m_get 149 55 = some (.iconst 3, 1) := by decide +kernel
theorem g149_56 : m_get 149 56 = some (.iload_n 1, 1) := by decide +kernel
theorem g149_57 : m_get 149 57 = some (.imul, 1) := by decide +kernel
theorem g149_58 : m_get 149 58 = some (.iload 6, 2) := by decide +kernel
theorem g149_60 : m_get 149 60 = some (.iadd, 1) := by decide +kernel
theorem g149_61 : m_get 149 61 = some (.aload_n 0, 1) := by decide +kernel
theorem g149_62 : m_get 149 62 = some (.getfield 62, 3) := by decide +kernel
theorem g149_65 : m_get 149 65 = some (.iconst 3, 1) := by decide +kernel
theorem g149_66 : m_get 149 66 = some (.iload_n 2, 1) := by decide +kernel
theorem g149_67 : m_get 149 67 = some (.imul, 1) := by decide +kernel
theorem g149_68 : m_get 149 68 = some (.iload 6, 2) := by decide +kernel
theorem g149_70 : m_get 149 70 = some (.iadd, 1) := by decide +kernel
theorem g149_71 : m_get 149 71 = some (.iaload, 1) := by decide +kernel
theorem g149_72 : m_get 149 72 = some (.aload_n 0, 1) := by decide +kernel
theorem g149_73 : m_get 149 73 = some (.getfield 62, 3) := by decide +kernel
theorem g149_76 : m_get 149 76 = some (.iconst 3, 1) := by decide +kernel
theorem g149_77 : m_get 149 77 = some (.iload_n 3, 1) := by decide +kernel
theorem g149_78 : m_get 149 78 = some (.imul, 1) := by decide +kernel
theorem g149_79 : m_get 149 79 = some (.iload 6, 2) := by decide +kernel
theorem g149_81 : m_get 149 81 = some (.iadd, 1) := by decide +kernel
theorem g149_82 : m_get 149 82 = some (.iaload, 1) := by decide +kernel
theorem g149_83 : m_get 149 83 = some (.iadd, 1) := by decide +kernel
theorem g149_84 : m_get 149 84 = some (.iastore, 1) := by decide +kernel
theorem g149_85 : m_get 149 85 = some (.iinc 6 1, 3) := by decide +kernel
theorem g149_88 : m_get 149 88 = some (.goto (-43), 3) := by decide +kernel
theorem g149_91 : m_get 149 91 = some (.return_, 1) := by decide +kernel
theorem f149_56 : m_fl (m_own 149) 56 = some (7, 27) := by decide +kernel
theorem f149_59 : m_fl (m_own 149) 59 = some (7, 28) := by decide +kernel
theorem f149_62 : m_fl (m_own 149) 62 = some (7, 29) := by decide +kernel
theorem g150_0 : m_get 150 0 = some (.bipush 25, 2) := by decide +kernel
theorem g150_2 : m_get 150 2 = some (.iload_n 1, 1) := by decide +kernel
theorem g150_3 : m_get 150 3 = some (.imul, 1) := by decide +kernel
theorem g150_4 : m_get 150 4 = some (.iload_n 2, 1) := by decide +kernel
theorem g150_5 : m_get 150 5 = some (.iadd, 1) := by decide +kernel
theorem g150_6 : m_get 150 6 = some (.istore_n 3, 1) := by decide +kernel
theorem g150_7 : m_get 150 7 = some (.aload_n 0, 1) := by decide +kernel
theorem g150_8 : m_get 150 8 = some (.iload_n 1, 1) := by decide +kernel
theorem g150_9 : m_get 150 9 = some (.iload_n 2, 1) := by decide +kernel
theorem g150_10 : m_get 150 10 = some (.invokevirtual 205, 3) := by decide +kernel
theorem g150_13 : m_get 150 13 = some (.istore 4, 2) := by decide +kernel
theorem g150_15 : m_get 150 15 = some (.aload_n 0, 1) := by decide +kernel
theorem g150_16 : m_get 150 16 = some (.getfield 56, 3) := by decide +kernel
theorem g150_19 : m_get 150 19 = some (.iload_n 3, 1) := by decide +kernel
theorem g150_20 : m_get 150 20 = some (.iload 4, 2) := by decide +kernel
theorem g150_22 : m_get 150 22 = some (.bipush (-9), 2) := by decide +kernel
theorem g150_24 : m_get 150 24 = some (.if_icmp .ne 7, 3) := by decide +kernel
theorem g150_27 : m_get 150 27 = some (.iconst 0, 1) := by decide +kernel
theorem g150_28 : m_get 150 28 = some (.goto 6, 3) := by decide +kernel
theorem g150_31 : m_get 150 31 = some (.iload_n 1, 1) := by decide +kernel
theorem g150_32 : m_get 150 32 = some (.iload_n 2, 1) := by decide +kernel
theorem g150_33 : m_get 150 33 = some (.imul, 1) := by decide +kernel
theorem g150_34 : m_get 150 34 = some (.iastore, 1) := by decide +kernel
theorem g150_35 : m_get 150 35 = some (.aload_n 0, 1) := by decide +kernel
theorem g150_36 : m_get 150 36 = some (.getfield 59, 3) := by decide +kernel
theorem g150_39 : m_get 150 39 = some (.iload_n 3, 1) := by decide +kernel
theorem g150_40 : m_get 150 40 = some (.iload 4, 2) := by decide +kernel
theorem g150_42 : m_get 150 42 = some (.bipush (-9), 2) := by decide +kernel
theorem g150_44 : m_get 150 44 = some (.if_icmp .ne 7, 3) := by decide +kernel
theorem g150_47 : m_get 150 47 = some (.iconst 0, 1) := by decide +kernel
theorem g150_48 : m_get 150 48 = some (.goto 7, 3) := by decide +kernel
theorem g150_51 : m_get 150 51 = some (.iconst 1, 1) := by decide +kernel
theorem g150_52 : m_get 150 52 = some (.iload 4, 2) := by decide +kernel
theorem g150_54 : m_get 150 54 = some (.iadd, 1) := by decide +kernel
theorem g150_55 : m_get 150 55 = some (.iastore, 1) := by decide +kernel
theorem g150_56 : m_get 150 56 = some (.iconst 0, 1) := by decide +kernel
theorem g150_57 : m_get 150 57 = some (.istore 5, 2) := by decide +kernel
theorem g150_59 : m_get 150 59 = some (.iload 5, 2) := by decide +kernel
theorem g150_61 : m_get 150 61 = some (.iconst 3, 1) := by decide +kernel
theorem g150_62 : m_get 150 62 = some (.if_icmp .ge 32, 3) := by decide +kernel
theorem g150_65 : m_get 150 65 = some (.aload_n 0, 1) := by decide +kernel
theorem g150_66 : m_get 150 66 = some (.getfield 62, 3) := by decide +kernel
theorem g150_69 : m_get 150 69 = some (.iconst 3, 1) := by decide +kernel
theorem g150_70 : m_get 150 70 = some (.iload_n 3, 1) := by decide +kernel
theorem g150_71 : m_get 150 71 = some (.imul, 1) := by decide +kernel
theorem g150_72 : m_get 150 72 = some (.iload 5, 2) := by decide +kernel
theorem g150_74 : m_get 150 74 = some (.iadd, 1) := by decide +kernel
theorem g150_75 : m_get 150 75 = some (.iload 5, 2) := by decide +kernel
theorem g150_77 : m_get 150 77 = some (.iload 4, 2) := by decide +kernel
theorem g150_79 : m_get 150 79 = some (.if_icmp .ne 7, 3) := by decide +kernel
theorem g150_82 : m_get 150 82 = some (.iconst 1, 1) := by decide +kernel
theorem g150_83 : m_get 150 83 = some (.goto 4, 3) := by decide +kernel
theorem g150_86 : m_get 150 86 = some (.iconst 0, 1) := by decide +kernel
theorem g150_87 : m_get 150 87 = some (.iastore, 1) := by decide +kernel
theorem g150_88 : m_get 150 88 = some (.iinc 5 1, 3) := by decide +kernel
theorem g150_91 : m_get 150 91 = some (.goto (-32), 3) := by decide +kernel
theorem g150_94 : m_get 150 94 = some (.iconst 1, 1) := by decide +kernel
theorem g150_95 : m_get 150 95 = some (.istore 5, 2) := by decide +kernel
theorem g150_97 : m_get 150 97 = some (.iload 5, 2) := by decide +kernel
theorem g150_99 : m_get 150 99 = some (.iload_n 1, 1) := by decide +kernel
theorem g150_100 : m_get 150 100 = some (.if_icmp .ge 42, 3) := by decide +kernel
theorem g150_103 : m_get 150 103 = some (.iload 4, 2) := by decide +kernel
theorem g150_105 : m_get 150 105 = some (.bipush (-9), 2) := by decide +kernel
theorem g150_107 : m_get 150 107 = some (.if_icmp .ne 35, 3) := by decide +kernel
theorem g150_110 : m_get 150 110 = some (.aload_n 0, 1) := by decide +kernel
theorem g150_111 : m_get 150 111 = some (.iload_n 3, 1) := by decide +kernel
theorem g150_112 : m_get 150 112 = some (.bipush 25, 2) := by decide +kernel
theorem g150_114 : m_get 150 114 = some (.iload 5, 2) := by decide +kernel
theorem g150_116 : m_get 150 116 = some (.imul, 1) := by decide +kernel
theorem g150_117 : m_get 150 117 = some (.iload_n 2, 1) := by decide +kernel
theorem g150_118 : m_get 150 118 = some (.iadd, 1) := by decide +kernel
theorem g150_119 : m_get 150 119 = some (.bipush 25, 2) := by decide +kernel
theorem g150_121 : m_get 150 121 = some (.iload_n 1, 1) := by decide +kernel
theorem g150_122 : m_get 150 122 = some (.iload 5, 2) := by decide +kernel
theorem g150_124 : m_get 150 124 = some (.isub, 1) := by decide +kernel
theorem g150_125 : m_get 150 125 = some (.imul, 1) := by decide +kernel
theorem g150_126 : m_get 150 126 = some (.iload_n 2, 1) := by decide +kernel
theorem g150_127 : m_get 150 127 = some (.iadd, 1) := by decide +kernel
theorem g150_128 : m_get 150 128 = some (.bipush 100, 2) := by decide +kernel
theorem g150_130 : m_get 150 130 = some (.iload 5, 2) := by decide +kernel
theorem g150_132 : m_get 150 132 = some (.iadd, 1) := by decide +kernel
theorem g150_133 : m_get 150 133 = some (.invokevirtual 208, 3) := by decide +kernel
theorem g150_136 : m_get 150 136 = some (.iinc 5 1, 3) := by decide +kernel
theorem g150_139 : m_get 150 139 = some (.goto (-42), 3) := by decide +kernel
theorem g150_142 : m_get 150 142 = some (.iconst 1, 1) := by decide +kernel
theorem g150_143 : m_get 150 143 = some (.istore 5, 2) := by decide +kernel
theorem g150_145 : m_get 150 145 = some (.iload 5, 2) := by decide +kernel
theorem g150_147 : m_get 150 147 = some (.iload_n 2, 1) := by decide +kernel
theorem g150_148 : m_get 150 148 = some (.if_icmp .ge 43, 3) := by decide +kernel
theorem g150_151 : m_get 150 151 = some (.iload 4, 2) := by decide +kernel
theorem g150_153 : m_get 150 153 = some (.bipush (-9), 2) := by decide +kernel
theorem g150_155 : m_get 150 155 = some (.if_icmp .ne 36, 3) := by decide +kernel
theorem g150_158 : m_get 150 158 = some (.aload_n 0, 1) := by decide +kernel
theorem g150_159 : m_get 150 159 = some (.iload_n 3, 1) := by decide +kernel
theorem g150_160 : m_get 150 160 = some (.bipush 25, 2) := by decide +kernel
theorem g150_162 : m_get 150 162 = some (.iload_n 1, 1) := by decide +kernel
theorem g150_163 : m_get 150 163 = some (.imul, 1) := by decide +kernel
theorem g150_164 : m_get 150 164 = some (.iload 5, 2) := by decide +kernel
theorem g150_166 : m_get 150 166 = some (.iadd, 1) := by decide +kernel
theorem g150_167 : m_get 150 167 = some (.bipush 25, 2) := by decide +kernel
theorem g150_169 : m_get 150 169 = some (.iload_n 1, 1) := by decide +kernel
theorem g150_170 : m_get 150 170 = some (.imul, 1) := by decide +kernel
theorem g150_171 : m_get 150 171 = some (.iload_n 2, 1) := by decide +kernel
theorem g150_172 : m_get 150 172 = some (.iadd, 1) := by decide +kernel
theorem g150_173 : m_get 150 173 = some (.iload 5, 2) := by decide +kernel
theorem g150_175 : m_get 150 175 = some (.isub, 1) := by decide +kernel
theorem g150_176 : m_get 150 176 = some (.sipush 200, 3) := by decide +kernel
theorem g150_179 : m_get 150 179 = some (.iload 5, 2) := by decide +kernel
theorem g150_181 : m_get 150 181 = some (.iadd, 1) := by decide +kernel
theorem g150_182 : m_get 150 182 = some (.invokevirtual 208, 3) := by decide +kernel
theorem g150_185 : m_get 150 185 = some (.iinc 5 1, 3) := by decide +kernel
theorem g150_188 : m_get 150 188 = some (.goto (-43), 3) := by decide +kernel
theorem g150_191 : m_get 150 191 = some (.return_, 1) := by decide +kernel
theorem f150_56 : m_fl (m_own 150) 56 = some (7, 27) := by decide +kernel
theorem f150_59 : m_fl (m_own 150) 59 = some (7, 28) := by decide +kernel
theorem f150_62 : m_fl (m_own 150) 62 = some (7, 29) := by decide +kernel
theorem k150_205 : m_ml (m_own 150) 205 = some (0, 148) := by decide +kernel
theorem k150_208 : m_ml (m_own 150) 208 = some (0, 149) := by decide +kernel
theorem g151_0 : m_get 151 0 = some (.iconst 1, 1) := by decide +kernel
theorem g151_1 : m_get 151 1 = some (.istore_n 1, 1) := by decide +kernel
theorem g151_2 : m_get 151 2 = some (.iload_n 1, 1) := by decide +kernel
theorem g151_3 : m_get 151 3 = some (.bipush 24, 2) := by decide +kernel
theorem g151_5 : m_get 151 5 = some (.if_icmp .gt 29, 3) := by decide +kernel
theorem g151_8 : m_get 151 8 = some (.iconst 1, 1) := by decide +kernel
theorem g151_9 : m_get 151 9 = some (.istore_n 2, 1) := by decide +kernel
theorem g151_10 : m_get 151 10 = some (.iload_n 2, 1) := by decide +kernel
theorem g151_11 : m_get 151 11 = some (.bipush 24, 2) := by decide +kernel
theorem g151_13 : m_get 151 13 = some (.if_icmp .gt 15, 3) := by decide +kernel
theorem g151_16 : m_get 151 16 = some (.aload_n 0, 1) := by decide +kernel
theorem g151_17 : m_get 151 17 = some (.iload_n 1, 1) := by decide +kernel
theorem g151_18 : m_get 151 18 = some (.iload_n 2, 1) := by decide +kernel
theorem g151_19 : m_get 151 19 = some (.invokevirtual 212, 3) := by decide +kernel
theorem g151_22 : m_get 151 22 = some (.iinc 2 1, 3) := by decide +kernel
theorem g151_25 : m_get 151 25 = some (.goto (-15), 3) := by decide +kernel
theorem g151_28 : m_get 151 28 = some (.iinc 1 1, 3) := by decide +kernel
theorem g151_31 : m_get 151 31 = some (.goto (-29), 3) := by decide +kernel
theorem g151_34 : m_get 151 34 = some (.return_, 1) := by decide +kernel
theorem k151_212 : m_ml (m_own 151) 212 = some (0, 150) := by decide +kernel
theorem g152_0 : m_get 152 0 = some (.iload_n 0, 1) := by decide +kernel
theorem g152_1 : m_get 152 1 = some (.iconst 1, 1) := by decide +kernel
theorem g152_2 : m_get 152 2 = some (.bipush 24, 2) := by decide +kernel
theorem g152_4 : m_get 152 4 = some (.invokestatic 81, 3) := by decide +kernel
theorem g152_7 : m_get 152 7 = some (.ifCond .eq 17, 3) := by decide +kernel
theorem g152_10 : m_get 152 10 = some (.iload_n 1, 1) := by decide +kernel
theorem g152_11 : m_get 152 11 = some (.iconst 1, 1) := by decide +kernel
theorem g152_12 : m_get 152 12 = some (.bipush 24, 2) := by decide +kernel
theorem g152_14 : m_get 152 14 = some (.invokestatic 81, 3) := by decide +kernel
theorem g152_17 : m_get 152 17 = some (.ifCond .eq 7, 3) := by decide +kernel
theorem g152_20 : m_get 152 20 = some (.iconst 1, 1) := by decide +kernel
theorem g152_21 : m_get 152 21 = some (.goto 4, 3) := by decide +kernel
theorem g152_24 : m_get 152 24 = some (.iconst 0, 1) := by decide +kernel
theorem g152_25 : m_get 152 25 = some (.ireturn, 1) := by decide +kernel
theorem k152_81 : m_ml (m_own 152) 81 = some (1, 97) := by decide +kernel
theorem g153_0 : m_get 153 0 = some (.iload_n 1, 1) := by decide +kernel
theorem g153_1 : m_get 153 1 = some (.iconst 0, 1) := by decide +kernel
theorem g153_2 : m_get 153 2 = some (.iconst 2, 1) := by decide +kernel
theorem g153_3 : m_get 153 3 = some (.invokestatic 81, 3) := by decide +kernel
theorem g153_6 : m_get 153 6 = some (.ifCond .eq 30, 3) := by decide +kernel
theorem g153_9 : m_get 153 9 = some (.iload_n 2, 1) := by decide +kernel
theorem g153_10 : m_get 153 10 = some (.iconst 0, 1) := by decide +kernel
theorem g153_11 : m_get 153 11 = some (.iconst 1, 1) := by decide +kernel
theorem g153_12 : m_get 153 12 = some (.invokestatic 81, 3) := by decide +kernel
theorem g153_15 : m_get 153 15 = some (.ifCond .eq 21, 3) := by decide +kernel
theorem g153_18 : m_get 153 18 = some (.aload_n 0, 1) := by decide +kernel
theorem g153_19 : m_get 153 19 = some (.iload_n 1, 1) := by decide +kernel
theorem g153_20 : m_get 153 20 = some (.iload_n 2, 1) := by decide +kernel
theorem g153_21 : m_get 153 21 = some (.iconst 1, 1) := by decide +kernel
theorem g153_22 : m_get 153 22 = some (.if_icmp .ne 7, 3) := by decide +kernel
theorem g153_25 : m_get 153 25 = some (.iconst 1, 1) := by decide +kernel
theorem g153_26 : m_get 153 26 = some (.goto 4, 3) := by decide +kernel
theorem g153_29 : m_get 153 29 = some (.iconst 0, 1) := by decide +kernel
theorem g153_30 : m_get 153 30 = some (.invokevirtual 201, 3) := by decide +kernel
theorem g153_33 : m_get 153 33 = some (.goto 4, 3) := by decide +kernel
theorem g153_36 : m_get 153 36 = some (.iconst (-1), 1) := by decide +kernel
theorem g153_37 : m_get 153 37 = some (.ireturn, 1) := by decide +kernel
theorem k153_81 : m_ml (m_own 153) 81 = some (1, 97) := by decide +kernel
theorem k153_201 : m_ml (m_own 153) 201 = some (0, 147) := by decide +kernel
theorem g154_0 : m_get 154 0 = some (.iload_n 1, 1) := by decide +kernel
theorem g154_1 : m_get 154 1 = some (.iload_n 2, 1) := by decide +kernel
theorem g154_2 : m_get 154 2 = some (.invokestatic 216, 3) := by decide +kernel
theorem g154_5 : m_get 154 5 = some (.ifCond .ne 5, 3) := by decide +kernel
theorem g154_8 : m_get 154 8 = some (.iconst (-1), 1) := by decide +kernel
theorem g154_9 : m_get 154 9 = some (.ireturn, 1) := by decide +kernel
theorem g154_10 : m_get 154 10 = some (.aload_n 0, 1) := by decide +kernel
theorem g154_11 : m_get 154 11 = some (.invokevirtual 219, 3) := by decide +kernel
theorem g154_14 : m_get 154 14 = some (.aload_n 0, 1) := by decide +kernel
theorem g154_15 : m_get 154 15 = some (.getfield 56, 3) := by decide +kernel
theorem g154_18 : m_get 154 18 = some (.bipush 25, 2) := by decide +kernel
theorem g154_20 : m_get 154 20 = some (.iload_n 1, 1) := by decide +kernel
theorem g154_21 : m_get 154 21 = some (.imul, 1) := by decide +kernel
theorem g154_22 : m_get 154 22 = some (.iload_n 2, 1) := by decide +kernel
theorem g154_23 : m_get 154 23 = some (.iadd, 1) := by decide +kernel
theorem g154_24 : m_get 154 24 = some (.iaload, 1) := by decide +kernel
theorem g154_25 : m_get 154 25 = some (.ireturn, 1) := by decide +kernel
theorem f154_56 : m_fl (m_own 154) 56 = some (7, 27) := by decide +kernel
theorem k154_216 : m_ml (m_own 154) 216 = some (1, 152) := by decide +kernel
theorem k154_219 : m_ml (m_own 154) 219 = some (0, 151) := by decide +kernel
theorem g155_0 : m_get 155 0 = some (.iload_n 1, 1) := by decide +kernel
theorem g155_1 : m_get 155 1 = some (.iload_n 2, 1) := by decide +kernel
theorem g155_2 : m_get 155 2 = some (.invokestatic 216, 3) := by decide +kernel
theorem g155_5 : m_get 155 5 = some (.ifCond .ne 5, 3) := by decide +kernel
theorem g155_8 : m_get 155 8 = some (.iconst (-1), 1) := by decide +kernel
theorem g155_9 : m_get 155 9 = some (.ireturn, 1) := by decide +kernel
theorem g155_10 : m_get 155 10 = some (.aload_n 0, 1) := by decide +kernel
theorem g155_11 : m_get 155 11 = some (.invokevirtual 219, 3) := by decide +kernel
theorem g155_14 : m_get 155 14 = some (.aload_n 0, 1) := by decide +kernel
theorem g155_15 : m_get 155 15 = some (.getfield 59, 3) := by decide +kernel
theorem g155_18 : m_get 155 18 = some (.bipush 25, 2) := by decide +kernel
theorem g155_20 : m_get 155 20 = some (.iload_n 1, 1) := by decide +kernel
theorem g155_21 : m_get 155 21 = some (.imul, 1) := by decide +kernel
theorem g155_22 : m_get 155 22 = some (.iload_n 2, 1) := by decide +kernel
theorem g155_23 : m_get 155 23 = some (.iadd, 1) := by decide +kernel
theorem g155_24 : m_get 155 24 = some (.iaload, 1) := by decide +kernel
theorem g155_25 : m_get 155 25 = some (.ireturn, 1) := by decide +kernel
theorem f155_59 : m_fl (m_own 155) 59 = some (7, 28) := by decide +kernel
theorem k155_216 : m_ml (m_own 155) 216 = some (1, 152) := by decide +kernel
theorem k155_219 : m_ml (m_own 155) 219 = some (0, 151) := by decide +kernel
theorem g156_0 : m_get 156 0 = some (.iload_n 1, 1) := by decide +kernel
theorem g156_1 : m_get 156 1 = some (.iload_n 2, 1) := by decide +kernel
theorem g156_2 : m_get 156 2 = some (.invokestatic 216, 3) := by decide +kernel
theorem g156_5 : m_get 156 5 = some (.ifCond .eq 12, 3) := by decide +kernel
theorem g156_8 : m_get 156 8 = some (.iload_n 3, 1) := by decide +kernel
theorem g156_9 : m_get 156 9 = some (.iconst 0, 1) := by decide +kernel
theorem g156_10 : m_get 156 10 = some (.iconst 2, 1) := by decide +kernel
theorem g156_11 : m_get 156 11 = some (.invokestatic 81, 3) := by decide +kernel
theorem g156_14 : m_get 156 14 = some (.ifCond .ne 5, 3) := by decide +kernel
theorem g156_17 : m_get 156 17 = some (.iconst (-1), 1) := by decide +kernel
theorem g156_18 : m_get 156 18 = some (.ireturn, 1) := by decide +kernel
theorem g156_19 : m_get 156 19 = some (.aload_n 0, 1) := by decide +kernel
theorem g156_20 : m_get 156 20 = some (.invokevirtual 219, 3) := by decide +kernel
theorem g156_23 : m_get 156 23 = some (.aload_n 0, 1) := by decide +kernel
theorem g156_24 : m_get 156 24 = some (.getfield 62, 3) := by decide +kernel
theorem g156_27 : m_get 156 27 = some (.iconst 3, 1) := by decide +kernel
theorem g156_28 : m_get 156 28 = some (.bipush 25, 2) := by decide +kernel
theorem g156_30 : m_get 156 30 = some (.iload_n 1, 1) := by decide +kernel
theorem g156_31 : m_get 156 31 = some (.imul, 1) := by decide +kernel
theorem g156_32 : m_get 156 32 = some (.iload_n 2, 1) := by decide +kernel
theorem g156_33 : m_get 156 33 = some (.iadd, 1) := by decide +kernel
theorem g156_34 : m_get 156 34 = some (.imul, 1) := by decide +kernel
theorem g156_35 : m_get 156 35 = some (.iload_n 3, 1) := by decide +kernel
theorem g156_36 : m_get 156 36 = some (.iadd, 1) := by decide +kernel
theorem g156_37 : m_get 156 37 = some (.iaload, 1) := by decide +kernel
theorem g156_38 : m_get 156 38 = some (.ireturn, 1) := by decide +kernel
theorem f156_62 : m_fl (m_own 156) 62 = some (7, 29) := by decide +kernel
theorem k156_81 : m_ml (m_own 156) 81 = some (1, 97) := by decide +kernel
theorem k156_216 : m_ml (m_own 156) 216 = some (1, 152) := by decide +kernel
theorem k156_219 : m_ml (m_own 156) 219 = some (0, 151) := by decide +kernel
theorem g157_0 : m_get 157 0 = some (.iload_n 1, 1) := by decide +kernel
theorem g157_1 : m_get 157 1 = some (.iconst 0, 1) := by decide +kernel
theorem g157_2 : m_get 157 2 = some (.iconst 1, 1) := by decide +kernel
theorem g157_3 : m_get 157 3 = some (.invokestatic 81, 3) := by decide +kernel
theorem g157_6 : m_get 157 6 = some (.ifCond .ne 5, 3) := by decide +kernel
theorem g157_9 : m_get 157 9 = some (.iconst (-1), 1) := by decide +kernel
theorem g157_10 : m_get 157 10 = some (.ireturn, 1) := by decide +kernel
theorem g157_11 : m_get 157 11 = some (.iconst 0, 1) := by decide +kernel
theorem g157_12 : m_get 157 12 = some (.istore_n 2, 1) := by decide +kernel
theorem g157_13 : m_get 157 13 = some (.iload_n 2, 1) := by decide +kernel
theorem g157_14 : m_get 157 14 = some (.bipush 15, 2) := by decide +kernel
theorem g157_16 : m_get 157 16 = some (.if_icmp .ge 26, 3) := by decide +kernel
theorem g157_19 : m_get 157 19 = some (.aload_n 0, 1) := by decide +kernel
theorem g157_20 : m_get 157 20 = some (.getfield 26, 3) := by decide +kernel
theorem g157_23 : m_get 157 23 = some (.bipush 15, 2) := by decide +kernel
theorem g157_25 : m_get 157 25 = some (.iload_n 1, 1) := by decide +kernel
theorem g157_26 : m_get 157 26 = some (.imul, 1) := by decide +kernel
theorem g157_27 : m_get 157 27 = some (.iload_n 2, 1) := by decide +kernel
theorem g157_28 : m_get 157 28 = some (.iadd, 1) := by decide +kernel
theorem g157_29 : m_get 157 29 = some (.aload_n 0, 1) := by decide +kernel
theorem g157_30 : m_get 157 30 = some (.getfield 16, 3) := by decide +kernel
theorem g157_33 : m_get 157 33 = some (.iload_n 2, 1) := by decide +kernel
theorem g157_34 : m_get 157 34 = some (.iaload, 1) := by decide +kernel
theorem g157_35 : m_get 157 35 = some (.iastore, 1) := by decide +kernel
theorem g157_36 : m_get 157 36 = some (.iinc 2 1, 3) := by decide +kernel
theorem g157_39 : m_get 157 39 = some (.goto (-26), 3) := by decide +kernel
theorem g157_42 : m_get 157 42 = some (.aload_n 0, 1) := by decide +kernel
theorem g157_43 : m_get 157 43 = some (.getfield 22, 3) := by decide +kernel
theorem g157_46 : m_get 157 46 = some (.iload_n 1, 1) := by decide +kernel
theorem g157_47 : m_get 157 47 = some (.iconst 1, 1) := by decide +kernel
theorem g157_48 : m_get 157 48 = some (.bastore, 1) := by decide +kernel
theorem g157_49 : m_get 157 49 = some (.aload_n 0, 1) := by decide +kernel
theorem g157_50 : m_get 157 50 = some (.invokevirtual 158, 3) := by decide +kernel
theorem g157_53 : m_get 157 53 = some (.ireturn, 1) := by decide +kernel
theorem f157_16 : m_fl (m_own 157) 16 = some (7, 3) := by decide +kernel
theorem f157_22 : m_fl (m_own 157) 22 = some (7, 6) := by decide +kernel
theorem f157_26 : m_fl (m_own 157) 26 = some (7, 7) := by decide +kernel
theorem k157_81 : m_ml (m_own 157) 81 = some (1, 97) := by decide +kernel
theorem k157_158 : m_ml (m_own 157) 158 = some (0, 123) := by decide +kernel
theorem g158_0 : m_get 158 0 = some (.iload_n 1, 1) := by decide +kernel
theorem g158_1 : m_get 158 1 = some (.iconst 0, 1) := by decide +kernel
theorem g158_2 : m_get 158 2 = some (.iconst 1, 1) := by decide +kernel
theorem g158_3 : m_get 158 3 = some (.invokestatic 81, 3) := by decide +kernel
theorem g158_6 : m_get 158 6 = some (.ifCond .ne 5, 3) := by decide +kernel
theorem g158_9 : m_get 158 9 = some (.iconst (-1), 1) := by decide +kernel
theorem g158_10 : m_get 158 10 = some (.ireturn, 1) := by decide +kernel
theorem g158_11 : m_get 158 11 = some (.aload_n 0, 1) := by decide +kernel
theorem g158_12 : m_get 158 12 = some (.getfield 22, 3) := by decide +kernel
theorem g158_15 : m_get 158 15 = some (.iload_n 1, 1) := by decide +kernel
theorem g158_16 : m_get 158 16 = some (.baload, 1) := by decide +kernel
theorem g158_17 : m_get 158 17 = some (.ifCond .ne 6, 3) := by decide +kernel
theorem g158_20 : m_get 158 20 = some (.bipush (-2), 2) := by decide +kernel
theorem g158_22 : m_get 158 22 = some (.ireturn, 1) := by decide +kernel
theorem g158_23 : m_get 158 23 = some (.iconst 0, 1) := by decide +kernel
theorem g158_24 : m_get 158 24 = some (.istore_n 2, 1) := by decide +kernel
theorem g158_25 : m_get 158 25 = some (.iload_n 2, 1) := by decide +kernel
theorem g158_26 : m_get 158 26 = some (.bipush 15, 2) := by decide +kernel
theorem g158_28 : m_get 158 28 = some (.if_icmp .ge 26, 3) := by decide +kernel
theorem g158_31 : m_get 158 31 = some (.aload_n 0, 1) := by decide +kernel
theorem g158_32 : m_get 158 32 = some (.getfield 16, 3) := by decide +kernel
theorem g158_35 : m_get 158 35 = some (.iload_n 2, 1) := by decide +kernel
theorem g158_36 : m_get 158 36 = some (.aload_n 0, 1) := by decide +kernel
theorem g158_37 : m_get 158 37 = some (.getfield 26, 3) := by decide +kernel
theorem g158_40 : m_get 158 40 = some (.bipush 15, 2) := by decide +kernel
theorem g158_42 : m_get 158 42 = some (.iload_n 1, 1) := by decide +kernel
theorem g158_43 : m_get 158 43 = some (.imul, 1) := by decide +kernel
theorem g158_44 : m_get 158 44 = some (.iload_n 2, 1) := by decide +kernel
theorem g158_45 : m_get 158 45 = some (.iadd, 1) := by decide +kernel
theorem g158_46 : m_get 158 46 = some (.iaload, 1) := by decide +kernel
theorem g158_47 : m_get 158 47 = some (.iastore, 1) := by decide +kernel
theorem g158_48 : m_get 158 48 = some (.iinc 2 1, 3) := by decide +kernel
theorem g158_51 : m_get 158 51 = some (.goto (-26), 3) := by decide +kernel
theorem g158_54 : m_get 158 54 = some (.aload_n 0, 1) := by decide +kernel
theorem g158_55 : m_get 158 55 = some (.iconst 0, 1) := by decide +kernel
theorem g158_56 : m_get 158 56 = some (.putfield 78, 3) := by decide +kernel
theorem g158_59 : m_get 158 59 = some (.aload_n 0, 1) := by decide +kernel
theorem g158_60 : m_get 158 60 = some (.invokevirtual 158, 3) := by decide +kernel
theorem g158_63 : m_get 158 63 = some (.ireturn, 1) := by decide +kernel
theorem f158_16 : m_fl (m_own 158) 16 = some (7, 3) := by decide +kernel
theorem f158_22 : m_fl (m_own 158) 22 = some (7, 6) := by decide +kernel
theorem f158_26 : m_fl (m_own 158) 26 = some (7, 7) := by decide +kernel
theorem f158_78 : m_fl (m_own 158) 78 = some (7, 4) := by decide +kernel
theorem k158_81 : m_ml (m_own 158) 81 = some (1, 97) := by decide +kernel
theorem k158_158 : m_ml (m_own 158) 158 = some (0, 123) := by decide +kernel
theorem g159_0 : m_get 159 0 = some (.iconst 0, 1) := by decide +kernel
theorem g159_1 : m_get 159 1 = some (.istore_n 1, 1) := by decide +kernel
theorem g159_2 : m_get 159 2 = some (.aload_n 0, 1) := by decide +kernel
theorem g159_3 : m_get 159 3 = some (.iload_n 1, 1) := by decide +kernel
theorem g159_4 : m_get 159 4 = some (.invokevirtual 173, 3) := by decide +kernel
theorem g159_7 : m_get 159 7 = some (.bipush (-9), 2) := by decide +kernel
theorem g159_9 : m_get 159 9 = some (.if_icmp .eq 9, 3) := by decide +kernel
theorem g159_12 : m_get 159 12 = some (.iinc 1 1, 3) := by decide +kernel
theorem g159_15 : m_get 159 15 = some (.goto (-13), 3) := by decide +kernel
theorem g159_18 : m_get 159 18 = some (.iload_n 1, 1) := by decide +kernel
theorem g159_19 : m_get 159 19 = some (.ireturn, 1) := by decide +kernel
theorem k159_173 : m_ml (m_own 159) 173 = some (0, 137) := by decide +kernel
theorem g160_0 : m_get 160 0 = some (.iload_n 1, 1) := by decide +kernel
theorem g160_1 : m_get 160 1 = some (.tableswitch 93 0 10 #[59, 64, 64, 64, 64, 64, 64, 73, 78, 83, 88], 59) := by decide +kernel
theorem g160_60 : m_get 160 60 = some (.aload_n 0, 1) := by decide +kernel
theorem g160_61 : m_get 160 61 = some (.getfield 75, 3) := by decide +kernel
theorem g160_64 : m_get 160 64 = some (.ireturn, 1) := by decide +kernel
theorem g160_65 : m_get 160 65 = some (.aload_n 0, 1) := by decide +kernel
theorem g160_66 : m_get 160 66 = some (.getfield 7, 3) := by decide +kernel
theorem g160_69 : m_get 160 69 = some (.iload_n 1, 1) := by decide +kernel
theorem g160_70 : m_get 160 70 = some (.iconst 1, 1) := by decide +kernel
theorem g160_71 : m_get 160 71 = some (.isub, 1) := by decide +kernel
theorem g160_72 : m_get 160 72 = some (.iaload, 1) := by decide +kernel
theorem g160_73 : m_get 160 73 = some (.ireturn, 1) := by decide +kernel
theorem g160_74 : m_get 160 74 = some (.aload_n 0, 1) := by decide +kernel
theorem g160_75 : m_get 160 75 = some (.invokevirtual 158, 3) := by decide +kernel
theorem g160_78 : m_get 160 78 = some (.ireturn, 1) := by decide +kernel
theorem g160_79 : m_get 160 79 = some (.aload_n 0, 1) := by decide +kernel
theorem g160_80 : m_get 160 80 = some (.getfield 85, 3) := by decide +kernel
theorem g160_83 : m_get 160 83 = some (.ireturn, 1) := by decide +kernel
theorem g160_84 : m_get 160 84 = some (.aload_n 0, 1) := by decide +kernel
theorem g160_85 : m_get 160 85 = some (.getfield 78, 3) := by decide +kernel
theorem g160_88 : m_get 160 88 = some (.ireturn, 1) := by decide +kernel
theorem g160_89 : m_get 160 89 = some (.aload_n 0, 1) := by decide +kernel
theorem g160_90 : m_get 160 90 = some (.invokevirtual 222, 3) := by decide +kernel
theorem g160_93 : m_get 160 93 = some (.ireturn, 1) := by decide +kernel
theorem g160_94 : m_get 160 94 = some (.iconst (-1), 1) := by decide +kernel
theorem g160_95 : m_get 160 95 = some (.ireturn, 1) := by decide +kernel
theorem f160_7 : m_fl (m_own 160) 7 = some (7, 1) := by decide +kernel
theorem f160_75 : m_fl (m_own 160) 75 = some (7, 0) := by decide +kernel
theorem f160_78 : m_fl (m_own 160) 78 = some (7, 4) := by decide +kernel
theorem f160_85 : m_fl (m_own 160) 85 = some (7, 12) := by decide +kernel
theorem k160_158 : m_ml (m_own 160) 158 = some (0, 123) := by decide +kernel
theorem k160_222 : m_ml (m_own 160) 222 = some (0, 159) := by decide +kernel
theorem g161_0 : m_get 161 0 = some (.iconst 0, 1) := by decide +kernel
theorem g161_1 : m_get 161 1 = some (.istore_n 2, 1) := by decide +kernel
theorem g161_2 : m_get 161 2 = some (.aload_n 0, 1) := by decide +kernel
theorem g161_3 : m_get 161 3 = some (.arraylength, 1) := by decide +kernel
theorem g161_4 : m_get 161 4 = some (.istore_n 3, 1) := by decide +kernel
theorem g161_5 : m_get 161 5 = some (.iload_n 2, 1) := by decide +kernel
theorem g161_6 : m_get 161 6 = some (.iload_n 3, 1) := by decide +kernel
theorem g161_7 : m_get 161 7 = some (.if_icmp .ge 13, 3) := by decide +kernel
theorem g161_10 : m_get 161 10 = some (.aload_n 0, 1) := by decide +kernel
theorem g161_11 : m_get 161 11 = some (.iload_n 2, 1) := by decide +kernel
theorem g161_12 : m_get 161 12 = some (.iload_n 1, 1) := by decide +kernel
theorem g161_13 : m_get 161 13 = some (.iastore, 1) := by decide +kernel
theorem g161_14 : m_get 161 14 = some (.iinc 2 1, 3) := by decide +kernel
theorem g161_17 : m_get 161 17 = some (.goto (-12), 3) := by decide +kernel
theorem g161_20 : m_get 161 20 = some (.return_, 1) := by decide +kernel
theorem g162_0 : m_get 162 0 = some (.iload_n 0, 1) := by decide +kernel
theorem g162_1 : m_get 162 1 = some (.iload_n 0, 1) := by decide +kernel
theorem g162_2 : m_get 162 2 = some (.iconst 1, 1) := by decide +kernel
theorem g162_3 : m_get 162 3 = some (.iushr, 1) := by decide +kernel
theorem g162_4 : m_get 162 4 = some (.ldc_w 265, 3) := by decide +kernel
theorem g162_7 : m_get 162 7 = some (.iand, 1) := by decide +kernel
theorem g162_8 : m_get 162 8 = some (.isub, 1) := by decide +kernel
theorem g162_9 : m_get 162 9 = some (.istore_n 0, 1) := by decide +kernel
theorem g162_10 : m_get 162 10 = some (.iload_n 0, 1) := by decide +kernel
theorem g162_11 : m_get 162 11 = some (.ldc_w 266, 3) := by decide +kernel
theorem g162_14 : m_get 162 14 = some (.iand, 1) := by decide +kernel
theorem g162_15 : m_get 162 15 = some (.iload_n 0, 1) := by decide +kernel
theorem g162_16 : m_get 162 16 = some (.iconst 2, 1) := by decide +kernel
theorem g162_17 : m_get 162 17 = some (.iushr, 1) := by decide +kernel
theorem g162_18 : m_get 162 18 = some (.ldc_w 266, 3) := by decide +kernel
theorem g162_21 : m_get 162 21 = some (.iand, 1) := by decide +kernel
theorem g162_22 : m_get 162 22 = some (.iadd, 1) := by decide +kernel
theorem g162_23 : m_get 162 23 = some (.istore_n 0, 1) := by decide +kernel
theorem g162_24 : m_get 162 24 = some (.iload_n 0, 1) := by decide +kernel
theorem g162_25 : m_get 162 25 = some (.iload_n 0, 1) := by decide +kernel
theorem g162_26 : m_get 162 26 = some (.iconst 4, 1) := by decide +kernel
theorem g162_27 : m_get 162 27 = some (.iushr, 1) := by decide +kernel
theorem g162_28 : m_get 162 28 = some (.iadd, 1) := by decide +kernel
theorem g162_29 : m_get 162 29 = some (.ldc_w 267, 3) := by decide +kernel
theorem g162_32 : m_get 162 32 = some (.iand, 1) := by decide +kernel
theorem g162_33 : m_get 162 33 = some (.istore_n 0, 1) := by decide +kernel
theorem g162_34 : m_get 162 34 = some (.iload_n 0, 1) := by decide +kernel
theorem g162_35 : m_get 162 35 = some (.iload_n 0, 1) := by decide +kernel
theorem g162_36 : m_get 162 36 = some (.bipush 8, 2) := by decide +kernel
theorem g162_38 : m_get 162 38 = some (.iushr, 1) := by decide +kernel
theorem g162_39 : m_get 162 39 = some (.iadd, 1) := by decide +kernel
theorem g162_40 : m_get 162 40 = some (.istore_n 0, 1) := by decide +kernel
theorem g162_41 : m_get 162 41 = some (.iload_n 0, 1) := by decide +kernel
theorem g162_42 : m_get 162 42 = some (.iload_n 0, 1) := by decide +kernel
theorem g162_43 : m_get 162 43 = some (.bipush 16, 2) := by decide +kernel
theorem g162_45 : m_get 162 45 = some (.iushr, 1) := by decide +kernel
theorem g162_46 : m_get 162 46 = some (.iadd, 1) := by decide +kernel
theorem g162_47 : m_get 162 47 = some (.istore_n 0, 1) := by decide +kernel
theorem g162_48 : m_get 162 48 = some (.iload_n 0, 1) := by decide +kernel
theorem g162_49 : m_get 162 49 = some (.bipush 63, 2) := by decide +kernel
theorem g162_51 : m_get 162 51 = some (.iand, 1) := by decide +kernel
theorem g162_52 : m_get 162 52 = some (.ireturn, 1) := by decide +kernel
end
section
/-! rules by shape (printed by gen4.py) -/
section ES
variable {d y pc pc' : Nat} {st rest : List mV} {H : mH} {r : mV} {H1 : mH} {ls : List mV}
theorem E_st0 {w : mV} {v : Int} (hg : m_get y pc = some (.istore_n 0, 1)) (hp : pc + 1 = pc') (h : Ev d y pc' (mI v :: rest) st H r H1) : Ev d y pc (w :: rest) (mI v :: st) H r H1 := E_istore_n hg (by show _ < List.length _; simp only [List.length_cons]; (first | omega | (show 3 < _; omega) | (show 2 < _; omega) | (show 1 < _; omega) | (show 0 < _; omega))) rfl hp h
theorem E_sa0 {w : mV} {v : Nat} (hg : m_get y pc = some (.astore_n 0, 1)) (hp : pc + 1 = pc') (h : Ev d y pc' (mR v :: rest) st H r H1) : Ev d y pc (w :: rest) (mR v :: st) H r H1 := E_astore_n hg (by show _ < List.length _; simp only [List.length_cons]; (first | omega | (show 3 < _; omega) | (show 2 < _; omega) | (show 1 < _; omega) | (show 0 < _; omega))) rfl hp h
theorem E_in0 {v n : Int} (hg : m_get y pc = some (.iinc 0 n, 3)) (hp : pc + 3 = pc') (hn : m_in (v + n) = true) (h : Ev d y pc' (mI (v + n) :: rest) st H r H1) : Ev d y pc (mI v :: rest) st H r H1 := E_iinc hg rfl hn rfl hp h
theorem E_st1 {u0 w : mV} {v : Int} (hg : m_get y pc = some (.istore_n 1, 1)) (hp : pc + 1 = pc') (h : Ev d y pc' (u0 :: mI v :: rest) st H r H1) : Ev d y pc (u0 :: w :: rest) (mI v :: st) H r H1 := E_istore_n hg (by show _ < List.length _; simp only [List.length_cons]; (first | omega | (show 3 < _; omega) | (show 2 < _; omega) | (show 1 < _; omega) | (show 0 < _; omega))) rfl hp h
theorem E_sa1 {u0 w : mV} {v : Nat} (hg : m_get y pc = some (.astore_n 1, 1)) (hp : pc + 1 = pc') (h : Ev d y pc' (u0 :: mR v :: rest) st H r H1) : Ev d y pc (u0 :: w :: rest) (mR v :: st) H r H1 := E_astore_n hg (by show _ < List.length _; simp only [List.length_cons]; (first | omega | (show 3 < _; omega) | (show 2 < _; omega) | (show 1 < _; omega) | (show 0 < _; omega))) rfl hp h
theorem E_in1 {u0 : mV} {v n : Int} (hg : m_get y pc = some (.iinc 1 n, 3)) (hp : pc + 3 = pc') (hn : m_in (v + n) = true) (h : Ev d y pc' (u0 :: mI (v + n) :: rest) st H r H1) : Ev d y pc (u0 :: mI v :: rest) st H r H1 := E_iinc hg rfl hn rfl hp h
theorem E_st2 {u0 u1 w : mV} {v : Int} (hg : m_get y pc = some (.istore_n 2, 1)) (hp : pc + 1 = pc') (h : Ev d y pc' (u0 :: u1 :: mI v :: rest) st H r H1) : Ev d y pc (u0 :: u1 :: w :: rest) (mI v :: st) H r H1 := E_istore_n hg (by show _ < List.length _; simp only [List.length_cons]; (first | omega | (show 3 < _; omega) | (show 2 < _; omega) | (show 1 < _; omega) | (show 0 < _; omega))) rfl hp h
theorem E_sa2 {u0 u1 w : mV} {v : Nat} (hg : m_get y pc = some (.astore_n 2, 1)) (hp : pc + 1 = pc') (h : Ev d y pc' (u0 :: u1 :: mR v :: rest) st H r H1) : Ev d y pc (u0 :: u1 :: w :: rest) (mR v :: st) H r H1 := E_astore_n hg (by show _ < List.length _; simp only [List.length_cons]; (first | omega | (show 3 < _; omega) | (show 2 < _; omega) | (show 1 < _; omega) | (show 0 < _; omega))) rfl hp h
theorem E_in2 {u0 u1 : mV} {v n : Int} (hg : m_get y pc = some (.iinc 2 n, 3)) (hp : pc + 3 = pc') (hn : m_in (v + n) = true) (h : Ev d y pc' (u0 :: u1 :: mI (v + n) :: rest) st H r H1) : Ev d y pc (u0 :: u1 :: mI v :: rest) st H r H1 := E_iinc hg rfl hn rfl hp h
theorem E_st3 {u0 u1 u2 w : mV} {v : Int} (hg : m_get y pc = some (.istore_n 3, 1)) (hp : pc + 1 = pc') (h : Ev d y pc' (u0 :: u1 :: u2 :: mI v :: rest) st H r H1) : Ev d y pc (u0 :: u1 :: u2 :: w :: rest) (mI v :: st) H r H1 := E_istore_n hg (by show _ < List.length _; simp only [List.length_cons]; (first | omega | (show 3 < _; omega) | (show 2 < _; omega) | (show 1 < _; omega) | (show 0 < _; omega))) rfl hp h
theorem E_sa3 {u0 u1 u2 w : mV} {v : Nat} (hg : m_get y pc = some (.astore_n 3, 1)) (hp : pc + 1 = pc') (h : Ev d y pc' (u0 :: u1 :: u2 :: mR v :: rest) st H r H1) : Ev d y pc (u0 :: u1 :: u2 :: w :: rest) (mR v :: st) H r H1 := E_astore_n hg (by show _ < List.length _; simp only [List.length_cons]; (first | omega | (show 3 < _; omega) | (show 2 < _; omega) | (show 1 < _; omega) | (show 0 < _; omega))) rfl hp h
theorem E_in3 {u0 u1 u2 : mV} {v n : Int} (hg : m_get y pc = some (.iinc 3 n, 3)) (hp : pc + 3 = pc') (hn : m_in (v + n) = true) (h : Ev d y pc' (u0 :: u1 :: u2 :: mI (v + n) :: rest) st H r H1) : Ev d y pc (u0 :: u1 :: u2 :: mI v :: rest) st H r H1 := E_iinc hg rfl hn rfl hp h
theorem E_st4 {u0 u1 u2 u3 w : mV} {v : Int} (hg : m_get y pc = some (.istore 4, 2)) (hp : pc + 2 = pc') (h : Ev d y pc' (u0 :: u1 :: u2 :: u3 :: mI v :: rest) st H r H1) : Ev d y pc (u0 :: u1 :: u2 :: u3 :: w :: rest) (mI v :: st) H r H1 := E_istore hg (by simp) rfl hp h
theorem E_in4 {u0 u1 u2 u3 : mV} {v n : Int} (hg : m_get y pc = some (.iinc 4 n, 3)) (hp : pc + 3 = pc') (hn : m_in (v + n) = true) (h : Ev d y pc' (u0 :: u1 :: u2 :: u3 :: mI (v + n) :: rest) st H r H1) : Ev d y pc (u0 :: u1 :: u2 :: u3 :: mI v :: rest) st H r H1 := E_iinc hg rfl hn rfl hp h
theorem E_st5 {u0 u1 u2 u3 u4 w : mV} {v : Int} (hg : m_get y pc = some (.istore 5, 2)) (hp : pc + 2 = pc') (h : Ev d y pc' (u0 :: u1 :: u2 :: u3 :: u4 :: mI v :: rest) st H r H1) : Ev d y pc (u0 :: u1 :: u2 :: u3 :: u4 :: w :: rest) (mI v :: st) H r H1 := E_istore hg (by simp) rfl hp h
theorem E_in5 {u0 u1 u2 u3 u4 : mV} {v n : Int} (hg : m_get y pc = some (.iinc 5 n, 3)) (hp : pc + 3 = pc') (hn : m_in (v + n) = true) (h : Ev d y pc' (u0 :: u1 :: u2 :: u3 :: u4 :: mI (v + n) :: rest) st H r H1) : Ev d y pc (u0 :: u1 :: u2 :: u3 :: u4 :: mI v :: rest) st H r H1 := E_iinc hg rfl hn rfl hp h
theorem E_st6 {u0 u1 u2 u3 u4 u5 w : mV} {v : Int} (hg : m_get y pc = some (.istore 6, 2)) (hp : pc + 2 = pc') (h : Ev d y pc' (u0 :: u1 :: u2 :: u3 :: u4 :: u5 :: mI v :: rest) st H r H1) : Ev d y pc (u0 :: u1 :: u2 :: u3 :: u4 :: u5 :: w :: rest) (mI v :: st) H r H1 := E_istore hg (by simp) rfl hp h
theorem E_in6 {u0 u1 u2 u3 u4 u5 : mV} {v n : Int} (hg : m_get y pc = some (.iinc 6 n, 3)) (hp : pc + 3 = pc') (hn : m_in (v + n) = true) (h : Ev d y pc' (u0 :: u1 :: u2 :: u3 :: u4 :: u5 :: mI (v + n) :: rest) st H r H1) : Ev d y pc (u0 :: u1 :: u2 :: u3 :: u4 :: u5 :: mI v :: rest) st H r H1 := E_iinc hg rfl hn rfl hp h
theorem E_st7 {u0 u1 u2 u3 u4 u5 u6 w : mV} {v : Int} (hg : m_get y pc = some (.istore 7, 2)) (hp : pc + 2 = pc') (h : Ev d y pc' (u0 :: u1 :: u2 :: u3 :: u4 :: u5 :: u6 :: mI v :: rest) st H r H1) : Ev d y pc (u0 :: u1 :: u2 :: u3 :: u4 :: u5 :: u6 :: w :: rest) (mI v :: st) H r H1 := E_istore hg (by simp) rfl hp h
theorem E_in7 {u0 u1 u2 u3 u4 u5 u6 : mV} {v n : Int} (hg : m_get y pc = some (.iinc 7 n, 3)) (hp : pc + 3 = pc') (hn : m_in (v + n) = true) (h : Ev d y pc' (u0 :: u1 :: u2 :: u3 :: u4 :: u5 :: u6 :: mI (v + n) :: rest) st H r H1) : Ev d y pc (u0 :: u1 :: u2 :: u3 :: u4 :: u5 :: u6 :: mI v :: rest) st H r H1 := E_iinc hg rfl hn rfl hp h
theorem E_st8 {u0 u1 u2 u3 u4 u5 u6 u7 w : mV} {v : Int} (hg : m_get y pc = some (.istore 8, 2)) (hp : pc + 2 = pc') (h : Ev d y pc' (u0 :: u1 :: u2 :: u3 :: u4 :: u5 :: u6 :: u7 :: mI v :: rest) st H r H1) : Ev d y pc (u0 :: u1 :: u2 :: u3 :: u4 :: u5 :: u6 :: u7 :: w :: rest) (mI v :: st) H r H1 := E_istore hg (by simp) rfl hp h
theorem E_in8 {u0 u1 u2 u3 u4 u5 u6 u7 : mV} {v n : Int} (hg : m_get y pc = some (.iinc 8 n, 3)) (hp : pc + 3 = pc') (hn : m_in (v + n) = true) (h : Ev d y pc' (u0 :: u1 :: u2 :: u3 :: u4 :: u5 :: u6 :: u7 :: mI (v + n) :: rest) st H r H1) : Ev d y pc (u0 :: u1 :: u2 :: u3 :: u4 :: u5 :: u6 :: u7 :: mI v :: rest) st H r H1 := E_iinc hg rfl hn rfl hp h
theorem E_st9 {u0 u1 u2 u3 u4 u5 u6 u7 u8 w : mV} {v : Int} (hg : m_get y pc = some (.istore 9, 2)) (hp : pc + 2 = pc') (h : Ev d y pc' (u0 :: u1 :: u2 :: u3 :: u4 :: u5 :: u6 :: u7 :: u8 :: mI v :: rest) st H r H1) : Ev d y pc (u0 :: u1 :: u2 :: u3 :: u4 :: u5 :: u6 :: u7 :: u8 :: w :: rest) (mI v :: st) H r H1 := E_istore hg (by simp) rfl hp h
theorem E_in9 {u0 u1 u2 u3 u4 u5 u6 u7 u8 : mV} {v n : Int} (hg : m_get y pc = some (.iinc 9 n, 3)) (hp : pc + 3 = pc') (hn : m_in (v + n) = true) (h : Ev d y pc' (u0 :: u1 :: u2 :: u3 :: u4 :: u5 :: u6 :: u7 :: u8 :: mI (v + n) :: rest) st H r H1) : Ev d y pc (u0 :: u1 :: u2 :: u3 :: u4 :: u5 :: u6 :: u7 :: u8 :: mI v :: rest) st H r H1 := E_iinc hg rfl hn rfl hp h
theorem E_cV0i {v : Int} {x z a o d' : Nat} {fs : List Int} {H2 : mH} (hg : m_get y pc = some (.invokevirtual x, 3)) (hm : m_ml (m_own y) x = some (0, z)) (hn : m_na z = 1) (hpz : m_prim z = false) (ho : m_own z = o) (hp : pc + 3 = pc') (h8 : st.length ≤ 8) (ha : H[a]? = some (o, fs)) (hC : Call d' z [mR a] H (mI v) H2) (hd : d' ≤ d) (h : Ev (d + 1) y pc' ls (mI v :: st) H2 r H1) : Ev (d + 1) y pc ls (mR a :: st) H r H1 := by
  have := E_call (av := [mR a]) (st := st) hg rfl hm rfl (by decide) hpz hn hp h8 hd (by simp [m_rcv, ha, ho]) hC h
  simpa using this
theorem E_cV0v {x z a o d' : Nat} {fs : List Int} {H2 : mH} (hg : m_get y pc = some (.invokevirtual x, 3)) (hm : m_ml (m_own y) x = some (0, z)) (hn : m_na z = 1) (hpz : m_prim z = false) (ho : m_own z = o) (hp : pc + 3 = pc') (h8 : st.length ≤ 8) (ha : H[a]? = some (o, fs)) (hC : Call d' z [mR a] H none H2) (hd : d' ≤ d) (h : Ev (d + 1) y pc' ls (st) H2 r H1) : Ev (d + 1) y pc ls (mR a :: st) H r H1 := by
  have := E_call (av := [mR a]) (st := st) hg rfl hm rfl (by decide) hpz hn hp h8 hd (by simp [m_rcv, ha, ho]) hC h
  simpa using this
theorem E_cV1i {v1 : mV} {v : Int} {x z a o d' : Nat} {fs : List Int} {H2 : mH} (hg : m_get y pc = some (.invokevirtual x, 3)) (hm : m_ml (m_own y) x = some (0, z)) (hn : m_na z = 2) (hpz : m_prim z = false) (ho : m_own z = o) (hp : pc + 3 = pc') (h8 : st.length ≤ 8) (ha : H[a]? = some (o, fs)) (hC : Call d' z [mR a, v1] H (mI v) H2) (hd : d' ≤ d) (h : Ev (d + 1) y pc' ls (mI v :: st) H2 r H1) : Ev (d + 1) y pc ls (v1 :: mR a :: st) H r H1 := by
  have := E_call (av := [mR a, v1]) (st := st) hg rfl hm rfl (by decide) hpz hn hp h8 hd (by simp [m_rcv, ha, ho]) hC h
  simpa using this
theorem E_cS1i {v1 : mV} {v : Int} {x z d' : Nat} {H2 : mH} (hg : m_get y pc = some (.invokestatic x, 3)) (hm : m_ml (m_own y) x = some (1, z)) (hn : m_na z = 1) (hpz : m_prim z = false) (hp : pc + 3 = pc') (h8 : st.length ≤ 8) (hC : Call d' z [v1] H (mI v) H2) (hd : d' ≤ d) (h : Ev (d + 1) y pc' ls (mI v :: st) H2 r H1) : Ev (d + 1) y pc ls (v1 :: st) H r H1 := by
  have := E_call (av := [v1]) (st := st) hg rfl hm rfl (by decide) hpz hn hp h8 hd rfl hC h
  simpa using this
theorem E_cN1i {v1 : mV} {v : Int} {x z d' : Nat} {H2 : mH} (hg : m_get y pc = some (.invokestatic x, 3)) (hm : m_ml (m_own y) x = some (3, z)) (hn : m_na z = 1) (hpz : m_prim z = false) (hp : pc + 3 = pc') (h8 : st.length ≤ 8) (hC : Call d' z [v1] H (mI v) H2) (hd : d' ≤ d) (h : Ev (d + 1) y pc' ls (mI v :: st) H2 r H1) : Ev (d + 1) y pc ls (v1 :: st) H r H1 := by
  have := E_call (av := [v1]) (st := st) hg rfl hm rfl (by decide) hpz hn hp h8 hd rfl hC h
  simpa using this
theorem E_cV1v {v1 : mV} {x z a o d' : Nat} {fs : List Int} {H2 : mH} (hg : m_get y pc = some (.invokevirtual x, 3)) (hm : m_ml (m_own y) x = some (0, z)) (hn : m_na z = 2) (hpz : m_prim z = false) (ho : m_own z = o) (hp : pc + 3 = pc') (h8 : st.length ≤ 8) (ha : H[a]? = some (o, fs)) (hC : Call d' z [mR a, v1] H none H2) (hd : d' ≤ d) (h : Ev (d + 1) y pc' ls (st) H2 r H1) : Ev (d + 1) y pc ls (v1 :: mR a :: st) H r H1 := by
  have := E_call (av := [mR a, v1]) (st := st) hg rfl hm rfl (by decide) hpz hn hp h8 hd (by simp [m_rcv, ha, ho]) hC h
  simpa using this
theorem E_cS1v {v1 : mV} {x z d' : Nat} {H2 : mH} (hg : m_get y pc = some (.invokestatic x, 3)) (hm : m_ml (m_own y) x = some (1, z)) (hn : m_na z = 1) (hpz : m_prim z = false) (hp : pc + 3 = pc') (h8 : st.length ≤ 8) (hC : Call d' z [v1] H none H2) (hd : d' ≤ d) (h : Ev (d + 1) y pc' ls (st) H2 r H1) : Ev (d + 1) y pc ls (v1 :: st) H r H1 := by
  have := E_call (av := [v1]) (st := st) hg rfl hm rfl (by decide) hpz hn hp h8 hd rfl hC h
  simpa using this
theorem E_cN1v {v1 : mV} {x z d' : Nat} {H2 : mH} (hg : m_get y pc = some (.invokestatic x, 3)) (hm : m_ml (m_own y) x = some (3, z)) (hn : m_na z = 1) (hpz : m_prim z = false) (hp : pc + 3 = pc') (h8 : st.length ≤ 8) (hC : Call d' z [v1] H none H2) (hd : d' ≤ d) (h : Ev (d + 1) y pc' ls (st) H2 r H1) : Ev (d + 1) y pc ls (v1 :: st) H r H1 := by
  have := E_call (av := [v1]) (st := st) hg rfl hm rfl (by decide) hpz hn hp h8 hd rfl hC h
  simpa using this
theorem E_cV2i {v1 v2 : mV} {v : Int} {x z a o d' : Nat} {fs : List Int} {H2 : mH} (hg : m_get y pc = some (.invokevirtual x, 3)) (hm : m_ml (m_own y) x = some (0, z)) (hn : m_na z = 3) (hpz : m_prim z = false) (ho : m_own z = o) (hp : pc + 3 = pc') (h8 : st.length ≤ 8) (ha : H[a]? = some (o, fs)) (hC : Call d' z [mR a, v1, v2] H (mI v) H2) (hd : d' ≤ d) (h : Ev (d + 1) y pc' ls (mI v :: st) H2 r H1) : Ev (d + 1) y pc ls (v2 :: v1 :: mR a :: st) H r H1 := by
  have := E_call (av := [mR a, v1, v2]) (st := st) hg rfl hm rfl (by decide) hpz hn hp h8 hd (by simp [m_rcv, ha, ho]) hC h
  simpa using this
theorem E_cS2i {v1 v2 : mV} {v : Int} {x z d' : Nat} {H2 : mH} (hg : m_get y pc = some (.invokestatic x, 3)) (hm : m_ml (m_own y) x = some (1, z)) (hn : m_na z = 2) (hpz : m_prim z = false) (hp : pc + 3 = pc') (h8 : st.length ≤ 8) (hC : Call d' z [v1, v2] H (mI v) H2) (hd : d' ≤ d) (h : Ev (d + 1) y pc' ls (mI v :: st) H2 r H1) : Ev (d + 1) y pc ls (v2 :: v1 :: st) H r H1 := by
  have := E_call (av := [v1, v2]) (st := st) hg rfl hm rfl (by decide) hpz hn hp h8 hd rfl hC h
  simpa using this
theorem E_cN2i {v1 v2 : mV} {v : Int} {x z d' : Nat} {H2 : mH} (hg : m_get y pc = some (.invokestatic x, 3)) (hm : m_ml (m_own y) x = some (3, z)) (hn : m_na z = 2) (hpz : m_prim z = false) (hp : pc + 3 = pc') (h8 : st.length ≤ 8) (hC : Call d' z [v1, v2] H (mI v) H2) (hd : d' ≤ d) (h : Ev (d + 1) y pc' ls (mI v :: st) H2 r H1) : Ev (d + 1) y pc ls (v2 :: v1 :: st) H r H1 := by
  have := E_call (av := [v1, v2]) (st := st) hg rfl hm rfl (by decide) hpz hn hp h8 hd rfl hC h
  simpa using this
theorem E_cV2v {v1 v2 : mV} {x z a o d' : Nat} {fs : List Int} {H2 : mH} (hg : m_get y pc = some (.invokevirtual x, 3)) (hm : m_ml (m_own y) x = some (0, z)) (hn : m_na z = 3) (hpz : m_prim z = false) (ho : m_own z = o) (hp : pc + 3 = pc') (h8 : st.length ≤ 8) (ha : H[a]? = some (o, fs)) (hC : Call d' z [mR a, v1, v2] H none H2) (hd : d' ≤ d) (h : Ev (d + 1) y pc' ls (st) H2 r H1) : Ev (d + 1) y pc ls (v2 :: v1 :: mR a :: st) H r H1 := by
  have := E_call (av := [mR a, v1, v2]) (st := st) hg rfl hm rfl (by decide) hpz hn hp h8 hd (by simp [m_rcv, ha, ho]) hC h
  simpa using this
theorem E_cS2v {v1 v2 : mV} {x z d' : Nat} {H2 : mH} (hg : m_get y pc = some (.invokestatic x, 3)) (hm : m_ml (m_own y) x = some (1, z)) (hn : m_na z = 2) (hpz : m_prim z = false) (hp : pc + 3 = pc') (h8 : st.length ≤ 8) (hC : Call d' z [v1, v2] H none H2) (hd : d' ≤ d) (h : Ev (d + 1) y pc' ls (st) H2 r H1) : Ev (d + 1) y pc ls (v2 :: v1 :: st) H r H1 := by
  have := E_call (av := [v1, v2]) (st := st) hg rfl hm rfl (by decide) hpz hn hp h8 hd rfl hC h
  simpa using this
theorem E_cN2v {v1 v2 : mV} {x z d' : Nat} {H2 : mH} (hg : m_get y pc = some (.invokestatic x, 3)) (hm : m_ml (m_own y) x = some (3, z)) (hn : m_na z = 2) (hpz : m_prim z = false) (hp : pc + 3 = pc') (h8 : st.length ≤ 8) (hC : Call d' z [v1, v2] H none H2) (hd : d' ≤ d) (h : Ev (d + 1) y pc' ls (st) H2 r H1) : Ev (d + 1) y pc ls (v2 :: v1 :: st) H r H1 := by
  have := E_call (av := [v1, v2]) (st := st) hg rfl hm rfl (by decide) hpz hn hp h8 hd rfl hC h
  simpa using this
theorem E_cV3i {v1 v2 v3 : mV} {v : Int} {x z a o d' : Nat} {fs : List Int} {H2 : mH} (hg : m_get y pc = some (.invokevirtual x, 3)) (hm : m_ml (m_own y) x = some (0, z)) (hn : m_na z = 4) (hpz : m_prim z = false) (ho : m_own z = o) (hp : pc + 3 = pc') (h8 : st.length ≤ 8) (ha : H[a]? = some (o, fs)) (hC : Call d' z [mR a, v1, v2, v3] H (mI v) H2) (hd : d' ≤ d) (h : Ev (d + 1) y pc' ls (mI v :: st) H2 r H1) : Ev (d + 1) y pc ls (v3 :: v2 :: v1 :: mR a :: st) H r H1 := by
  have := E_call (av := [mR a, v1, v2, v3]) (st := st) hg rfl hm rfl (by decide) hpz hn hp h8 hd (by simp [m_rcv, ha, ho]) hC h
  simpa using this
theorem E_cS3i {v1 v2 v3 : mV} {v : Int} {x z d' : Nat} {H2 : mH} (hg : m_get y pc = some (.invokestatic x, 3)) (hm : m_ml (m_own y) x = some (1, z)) (hn : m_na z = 3) (hpz : m_prim z = false) (hp : pc + 3 = pc') (h8 : st.length ≤ 8) (hC : Call d' z [v1, v2, v3] H (mI v) H2) (hd : d' ≤ d) (h : Ev (d + 1) y pc' ls (mI v :: st) H2 r H1) : Ev (d + 1) y pc ls (v3 :: v2 :: v1 :: st) H r H1 := by
  have := E_call (av := [v1, v2, v3]) (st := st) hg rfl hm rfl (by decide) hpz hn hp h8 hd rfl hC h
  simpa using this
theorem E_cN3i {v1 v2 v3 : mV} {v : Int} {x z d' : Nat} {H2 : mH} (hg : m_get y pc = some (.invokestatic x, 3)) (hm : m_ml (m_own y) x = some (3, z)) (hn : m_na z = 3) (hpz : m_prim z = false) (hp : pc + 3 = pc') (h8 : st.length ≤ 8) (hC : Call d' z [v1, v2, v3] H (mI v) H2) (hd : d' ≤ d) (h : Ev (d + 1) y pc' ls (mI v :: st) H2 r H1) : Ev (d + 1) y pc ls (v3 :: v2 :: v1 :: st) H r H1 := by
  have := E_call (av := [v1, v2, v3]) (st := st) hg rfl hm rfl (by decide) hpz hn hp h8 hd rfl hC h
  simpa using this
theorem E_cV3v {v1 v2 v3 : mV} {x z a o d' : Nat} {fs : List Int} {H2 : mH} (hg : m_get y pc = some (.invokevirtual x, 3)) (hm : m_ml (m_own y) x = some (0, z)) (hn : m_na z = 4) (hpz : m_prim z = false) (ho : m_own z = o) (hp : pc + 3 = pc') (h8 : st.length ≤ 8) (ha : H[a]? = some (o, fs)) (hC : Call d' z [mR a, v1, v2, v3] H none H2) (hd : d' ≤ d) (h : Ev (d + 1) y pc' ls (st) H2 r H1) : Ev (d + 1) y pc ls (v3 :: v2 :: v1 :: mR a :: st) H r H1 := by
  have := E_call (av := [mR a, v1, v2, v3]) (st := st) hg rfl hm rfl (by decide) hpz hn hp h8 hd (by simp [m_rcv, ha, ho]) hC h
  simpa using this
theorem E_cS3v {v1 v2 v3 : mV} {x z d' : Nat} {H2 : mH} (hg : m_get y pc = some (.invokestatic x, 3)) (hm : m_ml (m_own y) x = some (1, z)) (hn : m_na z = 3) (hpz : m_prim z = false) (hp : pc + 3 = pc') (h8 : st.length ≤ 8) (hC : Call d' z [v1, v2, v3] H none H2) (hd : d' ≤ d) (h : Ev (d + 1) y pc' ls (st) H2 r H1) : Ev (d + 1) y pc ls (v3 :: v2 :: v1 :: st) H r H1 := by
  have := E_call (av := [v1, v2, v3]) (st := st) hg rfl hm rfl (by decide) hpz hn hp h8 hd rfl hC h
  simpa using this
theorem E_cN3v {v1 v2 v3 : mV} {x z d' : Nat} {H2 : mH} (hg : m_get y pc = some (.invokestatic x, 3)) (hm : m_ml (m_own y) x = some (3, z)) (hn : m_na z = 3) (hpz : m_prim z = false) (hp : pc + 3 = pc') (h8 : st.length ≤ 8) (hC : Call d' z [v1, v2, v3] H none H2) (hd : d' ≤ d) (h : Ev (d + 1) y pc' ls (st) H2 r H1) : Ev (d + 1) y pc ls (v3 :: v2 :: v1 :: st) H r H1 := by
  have := E_call (av := [v1, v2, v3]) (st := st) hg rfl hm rfl (by decide) hpz hn hp h8 hd rfl hC h
  simpa using this
theorem E_cV4i {v1 v2 v3 v4 : mV} {v : Int} {x z a o d' : Nat} {fs : List Int} {H2 : mH} (hg : m_get y pc = some (.invokevirtual x, 3)) (hm : m_ml (m_own y) x = some (0, z)) (hn : m_na z = 5) (hpz : m_prim z = false) (ho : m_own z = o) (hp : pc + 3 = pc') (h8 : st.length ≤ 8) (ha : H[a]? = some (o, fs)) (hC : Call d' z [mR a, v1, v2, v3, v4] H (mI v) H2) (hd : d' ≤ d) (h : Ev (d + 1) y pc' ls (mI v :: st) H2 r H1) : Ev (d + 1) y pc ls (v4 :: v3 :: v2 :: v1 :: mR a :: st) H r H1 := by
  have := E_call (av := [mR a, v1, v2, v3, v4]) (st := st) hg rfl hm rfl (by decide) hpz hn hp h8 hd (by simp [m_rcv, ha, ho]) hC h
  simpa using this
theorem E_cS4i {v1 v2 v3 v4 : mV} {v : Int} {x z d' : Nat} {H2 : mH} (hg : m_get y pc = some (.invokestatic x, 3)) (hm : m_ml (m_own y) x = some (1, z)) (hn : m_na z = 4) (hpz : m_prim z = false) (hp : pc + 3 = pc') (h8 : st.length ≤ 8) (hC : Call d' z [v1, v2, v3, v4] H (mI v) H2) (hd : d' ≤ d) (h : Ev (d + 1) y pc' ls (mI v :: st) H2 r H1) : Ev (d + 1) y pc ls (v4 :: v3 :: v2 :: v1 :: st) H r H1 := by
  have := E_call (av := [v1, v2, v3, v4]) (st := st) hg rfl hm rfl (by decide) hpz hn hp h8 hd rfl hC h
  simpa using this
theorem E_cN4i {v1 v2 v3 v4 : mV} {v : Int} {x z d' : Nat} {H2 : mH} (hg : m_get y pc = some (.invokestatic x, 3)) (hm : m_ml (m_own y) x = some (3, z)) (hn : m_na z = 4) (hpz : m_prim z = false) (hp : pc + 3 = pc') (h8 : st.length ≤ 8) (hC : Call d' z [v1, v2, v3, v4] H (mI v) H2) (hd : d' ≤ d) (h : Ev (d + 1) y pc' ls (mI v :: st) H2 r H1) : Ev (d + 1) y pc ls (v4 :: v3 :: v2 :: v1 :: st) H r H1 := by
  have := E_call (av := [v1, v2, v3, v4]) (st := st) hg rfl hm rfl (by decide) hpz hn hp h8 hd rfl hC h
  simpa using this
theorem E_cV4v {v1 v2 v3 v4 : mV} {x z a o d' : Nat} {fs : List Int} {H2 : mH} (hg : m_get y pc = some (.invokevirtual x, 3)) (hm : m_ml (m_own y) x = some (0, z)) (hn : m_na z = 5) (hpz : m_prim z = false) (ho : m_own z = o) (hp : pc + 3 = pc') (h8 : st.length ≤ 8) (ha : H[a]? = some (o, fs)) (hC : Call d' z [mR a, v1, v2, v3, v4] H none H2) (hd : d' ≤ d) (h : Ev (d + 1) y pc' ls (st) H2 r H1) : Ev (d + 1) y pc ls (v4 :: v3 :: v2 :: v1 :: mR a :: st) H r H1 := by
  have := E_call (av := [mR a, v1, v2, v3, v4]) (st := st) hg rfl hm rfl (by decide) hpz hn hp h8 hd (by simp [m_rcv, ha, ho]) hC h
  simpa using this
theorem E_cS4v {v1 v2 v3 v4 : mV} {x z d' : Nat} {H2 : mH} (hg : m_get y pc = some (.invokestatic x, 3)) (hm : m_ml (m_own y) x = some (1, z)) (hn : m_na z = 4) (hpz : m_prim z = false) (hp : pc + 3 = pc') (h8 : st.length ≤ 8) (hC : Call d' z [v1, v2, v3, v4] H none H2) (hd : d' ≤ d) (h : Ev (d + 1) y pc' ls (st) H2 r H1) : Ev (d + 1) y pc ls (v4 :: v3 :: v2 :: v1 :: st) H r H1 := by
  have := E_call (av := [v1, v2, v3, v4]) (st := st) hg rfl hm rfl (by decide) hpz hn hp h8 hd rfl hC h
  simpa using this
theorem E_cN4v {v1 v2 v3 v4 : mV} {x z d' : Nat} {H2 : mH} (hg : m_get y pc = some (.invokestatic x, 3)) (hm : m_ml (m_own y) x = some (3, z)) (hn : m_na z = 4) (hpz : m_prim z = false) (hp : pc + 3 = pc') (h8 : st.length ≤ 8) (hC : Call d' z [v1, v2, v3, v4] H none H2) (hd : d' ≤ d) (h : Ev (d + 1) y pc' ls (st) H2 r H1) : Ev (d + 1) y pc ls (v4 :: v3 :: v2 :: v1 :: st) H r H1 := by
  have := E_call (av := [v1, v2, v3, v4]) (st := st) hg rfl hm rfl (by decide) hpz hn hp h8 hd rfl hC h
  simpa using this
theorem E_cV5i {v1 v2 v3 v4 v5 : mV} {v : Int} {x z a o d' : Nat} {fs : List Int} {H2 : mH} (hg : m_get y pc = some (.invokevirtual x, 3)) (hm : m_ml (m_own y) x = some (0, z)) (hn : m_na z = 6) (hpz : m_prim z = false) (ho : m_own z = o) (hp : pc + 3 = pc') (h8 : st.length ≤ 8) (ha : H[a]? = some (o, fs)) (hC : Call d' z [mR a, v1, v2, v3, v4, v5] H (mI v) H2) (hd : d' ≤ d) (h : Ev (d + 1) y pc' ls (mI v :: st) H2 r H1) : Ev (d + 1) y pc ls (v5 :: v4 :: v3 :: v2 :: v1 :: mR a :: st) H r H1 := by
  have := E_call (av := [mR a, v1, v2, v3, v4, v5]) (st := st) hg rfl hm rfl (by decide) hpz hn hp h8 hd (by simp [m_rcv, ha, ho]) hC h
  simpa using this
theorem E_cS5i {v1 v2 v3 v4 v5 : mV} {v : Int} {x z d' : Nat} {H2 : mH} (hg : m_get y pc = some (.invokestatic x, 3)) (hm : m_ml (m_own y) x = some (1, z)) (hn : m_na z = 5) (hpz : m_prim z = false) (hp : pc + 3 = pc') (h8 : st.length ≤ 8) (hC : Call d' z [v1, v2, v3, v4, v5] H (mI v) H2) (hd : d' ≤ d) (h : Ev (d + 1) y pc' ls (mI v :: st) H2 r H1) : Ev (d + 1) y pc ls (v5 :: v4 :: v3 :: v2 :: v1 :: st) H r H1 := by
  have := E_call (av := [v1, v2, v3, v4, v5]) (st := st) hg rfl hm rfl (by decide) hpz hn hp h8 hd rfl hC h
  simpa using this
theorem E_cN5i {v1 v2 v3 v4 v5 : mV} {v : Int} {x z d' : Nat} {H2 : mH} (hg : m_get y pc = some (.invokestatic x, 3)) (hm : m_ml (m_own y) x = some (3, z)) (hn : m_na z = 5) (hpz : m_prim z = false) (hp : pc + 3 = pc') (h8 : st.length ≤ 8) (hC : Call d' z [v1, v2, v3, v4, v5] H (mI v) H2) (hd : d' ≤ d) (h : Ev (d + 1) y pc' ls (mI v :: st) H2 r H1) : Ev (d + 1) y pc ls (v5 :: v4 :: v3 :: v2 :: v1 :: st) H r H1 := by
  have := E_call (av := [v1, v2, v3, v4, v5]) (st := st) hg rfl hm rfl (by decide) hpz hn hp h8 hd rfl hC h
  simpa using this
theorem E_cV5v {v1 v2 v3 v4 v5 : mV} {x z a o d' : Nat} {fs : List Int} {H2 : mH} (hg : m_get y pc = some (.invokevirtual x, 3)) (hm : m_ml (m_own y) x = some (0, z)) (hn : m_na z = 6) (hpz : m_prim z = false) (ho : m_own z = o) (hp : pc + 3 = pc') (h8 : st.length ≤ 8) (ha : H[a]? = some (o, fs)) (hC : Call d' z [mR a, v1, v2, v3, v4, v5] H none H2) (hd : d' ≤ d) (h : Ev (d + 1) y pc' ls (st) H2 r H1) : Ev (d + 1) y pc ls (v5 :: v4 :: v3 :: v2 :: v1 :: mR a :: st) H r H1 := by
  have := E_call (av := [mR a, v1, v2, v3, v4, v5]) (st := st) hg rfl hm rfl (by decide) hpz hn hp h8 hd (by simp [m_rcv, ha, ho]) hC h
  simpa using this
theorem E_cS5v {v1 v2 v3 v4 v5 : mV} {x z d' : Nat} {H2 : mH} (hg : m_get y pc = some (.invokestatic x, 3)) (hm : m_ml (m_own y) x = some (1, z)) (hn : m_na z = 5) (hpz : m_prim z = false) (hp : pc + 3 = pc') (h8 : st.length ≤ 8) (hC : Call d' z [v1, v2, v3, v4, v5] H none H2) (hd : d' ≤ d) (h : Ev (d + 1) y pc' ls (st) H2 r H1) : Ev (d + 1) y pc ls (v5 :: v4 :: v3 :: v2 :: v1 :: st) H r H1 := by
  have := E_call (av := [v1, v2, v3, v4, v5]) (st := st) hg rfl hm rfl (by decide) hpz hn hp h8 hd rfl hC h
  simpa using this
theorem E_cN5v {v1 v2 v3 v4 v5 : mV} {x z d' : Nat} {H2 : mH} (hg : m_get y pc = some (.invokestatic x, 3)) (hm : m_ml (m_own y) x = some (3, z)) (hn : m_na z = 5) (hpz : m_prim z = false) (hp : pc + 3 = pc') (h8 : st.length ≤ 8) (hC : Call d' z [v1, v2, v3, v4, v5] H none H2) (hd : d' ≤ d) (h : Ev (d + 1) y pc' ls (st) H2 r H1) : Ev (d + 1) y pc ls (v5 :: v4 :: v3 :: v2 :: v1 :: st) H r H1 := by
  have := E_call (av := [v1, v2, v3, v4, v5]) (st := st) hg rfl hm rfl (by decide) hpz hn hp h8 hd rfl hC h
  simpa using this
theorem E_prim1 {v1 : mV} {v : Int} {x z : Nat} (hg : m_get y pc = some (.invokestatic x, 3)) (hm : m_ml (m_own y) x = some (1, z)) (hn : m_na z = 1) (hpz : m_prim z = true) (hp : pc + 3 = pc') (h8 : st.length ≤ 8) (hC : m_pv z [v1] = some (mI v)) (h : Ev (d + 1) y pc' ls (mI v :: st) H r H1) : Ev (d + 1) y pc ls (v1 :: st) H r H1 := by
  have := E_prim (av := [v1]) (st := st) hg rfl hm rfl (by decide) hpz hn hp h8 rfl hC h
  simpa using this
theorem E_prim2 {v1 v2 : mV} {v : Int} {x z : Nat} (hg : m_get y pc = some (.invokestatic x, 3)) (hm : m_ml (m_own y) x = some (1, z)) (hn : m_na z = 2) (hpz : m_prim z = true) (hp : pc + 3 = pc') (h8 : st.length ≤ 8) (hC : m_pv z [v1, v2] = some (mI v)) (h : Ev (d + 1) y pc' ls (mI v :: st) H r H1) : Ev (d + 1) y pc ls (v2 :: v1 :: st) H r H1 := by
  have := E_prim (av := [v1, v2]) (st := st) hg rfl hm rfl (by decide) hpz hn hp h8 rfl hC h
  simpa using this
theorem E_max {a b : Int} {x z : Nat} (hg : m_get y pc = some (.invokestatic x, 3)) (hm : m_ml (m_own y) x = some (7, z)) (hp : pc + 3 = pc') (h8 : st.length ≤ 7) (h : Ev (d + 1) y pc' ls (mI (max a b) :: st) H r H1) : Ev (d + 1) y pc ls (mI b :: mI a :: st) H r H1 := by
  refine E_blt (st' := mI (max a b) :: st) (H2 := H) hg rfl hm rfl (by decide) hp ?_ (by simp; omega) h
  have : (if a < b then b else a) = max a b := by omega
  simp [m_blt, this]
theorem E_min {a b : Int} {x z : Nat} (hg : m_get y pc = some (.invokestatic x, 3)) (hm : m_ml (m_own y) x = some (8, z)) (hp : pc + 3 = pc') (h8 : st.length ≤ 7) (h : Ev (d + 1) y pc' ls (mI (min a b) :: st) H r H1) : Ev (d + 1) y pc ls (mI b :: mI a :: st) H r H1 := by
  refine E_blt (st' := mI (min a b) :: st) (H2 := H) hg rfl hm rfl (by decide) hp ?_ (by simp; omega) h
  have : (if b < a then b else a) = min a b := by omega
  simp [m_blt, this]
/-- arraycopy of a whole row -/
theorem E_copy {a b x z : Nat} {n : Int} {f g : List Int} (hg : m_get y pc = some (.invokestatic x, 3)) (hm : m_ml (m_own y) x = some (6, z)) (hp : pc + 3 = pc') (h8 : st.length ≤ 8) (ha : H[a]? = some (8, f)) (hb : H[b]? = some (8, g)) (hf : (f.length : Int) = n) (hgl : (g.length : Int) = n) (h : Ev (d + 1) y pc' ls st (pt H b f) r H1) : Ev (d + 1) y pc ls (mI n :: mI 0 :: mR b :: mI 0 :: mR a :: st) H r H1 := by
  refine E_blt (st' := st) (H2 := pt H b f) hg rfl hm rfl (by decide) hp ?_ h8 h
  have e1 : n.toNat = f.length := by omega
  have e2 : n.toNat = g.length := by omega
  have e3 : m_cpy f g 0 0 n.toNat = f := by
    unfold m_cpy
    rw [e1]
    simp
    omega
  have h0 : 0 ≤ n := by omega
  simp [m_blt, ha, hb, hf, hgl, h0, pt, e3]
end ES
end
section
/-! rows of ints, counting, and the class Layout -/
def cn (p : Nat → Bool) : Nat → Int
  | 0 => 0
  | n + 1 => cn p n + (if p n = true then 1 else 0)
theorem cn_t {p : Nat → Bool} {n : Nat} (h : p n = true) : cn p (n + 1) = cn p n + 1 := by simp [cn, h]
theorem cn_f {p : Nat → Bool} {n : Nat} (h : p n = false) : cn p (n + 1) = cn p n := by simp [cn, h]
theorem cn_bd (p : Nat → Bool) : ∀ n : Nat, 0 ≤ cn p n ∧ cn p n ≤ n
  | 0 => by simp [cn]
  | n + 1 => by
    have := cn_bd p n
    simp only [cn]
    split <;> omega
theorem td4 {x : Int} (h0 : 0 ≤ x) (h : x < 24) : 0 ≤ x.tdiv 4 ∧ x.tdiv 4 < 6 := by
  rw [Int.tdiv_eq_ediv_of_nonneg h0]
  omega
theorem ix_up {fs : List Int} {i j v : Int} (hi : 0 ≤ i) (hl : i < fs.length) (hj : 0 ≤ j) : ix (up fs i v) j = if i = j then v else ix fs j := by
  unfold ix up
  simp only [List.getD_eq_getElem?_getD]
  by_cases e : i = j
  · subst e
    rw [List.getElem?_set_self (by omega)]
    simp
  · rw [List.getElem?_set_ne (by omega), if_neg e]
theorem up_len (fs : List Int) (i v : Int) : (up fs i v).length = fs.length := by simp [up]
theorem ix_ext {f g : List Int} (hl : f.length = g.length) (h : ∀ i : Int, 0 ≤ i → i < f.length → ix f i = ix g i) : f = g := by
  apply List.ext_getElem?
  intro k
  by_cases hk : k < f.length
  · have := h k (by omega) (by omega)
    unfold ix at this
    simp only [List.getD_eq_getElem?_getD, Int.toNat_natCast] at this
    rw [List.getElem?_eq_getElem hk, List.getElem?_eq_getElem (by omega)] at this ⊢
    simpa using this
  · rw [List.getElem?_eq_none (by omega), List.getElem?_eq_none (by omega)]
theorem ix_rep {n : Nat} {v i : Int} (h0 : 0 ≤ i) (h : i < n) : ix (List.replicate n v) i = v := by
  unfold ix
  rw [List.getD_eq_getElem?_getD, List.getElem?_replicate, if_pos (by omega)]
  rfl
theorem fl_step {fs : List Int} {v j : Int} {i : Nat} (hj0 : 0 ≤ j) (hi : i < fs.length) : (if (i : Int) = j then v else ix (List.replicate i v ++ fs.drop i) j) = ix (List.replicate (i + 1) v ++ fs.drop (i + 1)) j := by
  unfold ix
  simp only [List.getD_eq_getElem?_getD]
  by_cases h1 : (i : Int) = j
  · rw [if_pos h1, List.getElem?_append_left (by simp; omega), List.getElem?_replicate, if_pos (by omega)]
    rfl
  · rw [if_neg h1]
    by_cases h2 : j < i
    · rw [List.getElem?_append_left (by simp; omega), List.getElem?_append_left (by simp; omega), List.getElem?_replicate, List.getElem?_replicate, if_pos (by omega), if_pos (by omega)]
    · rw [List.getElem?_append_right (by simp; omega), List.getElem?_append_right (by simp; omega), List.getElem?_drop, List.getElem?_drop]
      simp only [List.length_replicate]
      congr 2
      omega
/-- squares' blocks: none, or a block -/
def okB (bl : List Int) : Prop := ∀ i : Int, ix bl i = -9 ∨ (0 ≤ ix bl i ∧ ix bl i < 24)
def sml (l : List Int) : Prop := ∀ i : Int, -1000 ≤ ix l i ∧ ix l i ≤ 1000
def isLay (H : mH) (a : Nat) (bl sk : List Int) : Prop := H[a]? = some (2, [((a + 1 : Nat) : Int), ((a + 2 : Nat) : Int)]) ∧ H[a + 1]? = some (8, bl) ∧ H[a + 2]? = some (8, sk) ∧ bl.length = 6 ∧ sk.length = 6 ∧ okB bl ∧ sml sk
/-- how many squares have a kind; a hue -/
def nK (bl : List Int) (k : Int) : Nat → Int := cn (fun s => decide (0 ≤ ix bl s ∧ (ix bl s).tdiv 4 = k))
def nH (bl hu : List Int) (w : Int) : Nat → Int := cn (fun s => decide (0 ≤ ix bl s ∧ ix hu ((ix bl s).tdiv 4) = w))
theorem C_fill {H : mH} {a : Nat} {fs : List Int} {v : Int} (ha : H[a]? = some (8, fs)) (hl : fs.length ≤ 100000) : Call 0 161 [mR a, mI v] H none (pt H a (List.replicate fs.length v)) := by
  refine Call_of rfl ?_
  refine E_iconst (pc' := 1) g161_0 (by decide) rfl ?_
  refine E_st2 (pc' := 2) g161_1 rfl ?_
  refine E_aload_n (pc' := 3) g161_2 rfl rfl ?_
  refine E_alen (pc' := 4) g161_3 rfl (by assumption) (by decide) (m_in_iff.mpr (by omega)) ?_
  refine E_st3 (pc' := 5) g161_4 rfl ?_
  refine Ev_cast (H := pt H a (List.replicate 0 v ++ fs.drop 0)) ?_ rfl (by simp [pt_same ha])
  refine E_loop (n := fs.length) (fun i => Ev 0 161 5 [mR a, mI v, mI (i : Int), mI (fs.length : Int)] [] (pt H a (List.replicate i v ++ fs.drop i)) none (pt H a (List.replicate fs.length v))) ?_ ?_ 0 (by omega)
  · intro i hi hh
    refine E_iload_n (pc' := 6) g161_5 rfl rfl ?_
    refine E_iload_n (pc' := 7) g161_6 rfl rfl ?_
    refine E_icge (pc' := 10) (pt := 20) g161_7 rfl rfl (fun c0 => ?_) (fun c0 => ?_)
    · exact absurd c0 (by omega)
    · refine E_aload_n (pc' := 11) g161_10 rfl rfl ?_
      refine E_iload_n (pc' := 12) g161_11 rfl rfl ?_
      refine E_iload_n (pc' := 13) g161_12 rfl rfl ?_
      refine E_iastore (pc' := 14) g161_13 rfl (pt_self ha) (by omega) (by simp; omega) ?_
      refine E_in2 (pc' := 17) g161_14 rfl (m_in_iff.mpr (by omega)) ?_
      refine E_goto (pc' := 5) g161_17 rfl ?_
      refine Ev_cast hh rfl ?_
      rw [pt_pt]
      congr 1
      apply ix_ext (by simp [up_len]; omega)
      intro j hj0 hj1
      rw [up_len] at hj1
      have hlen : ((List.replicate i v ++ fs.drop i).length : Int) = fs.length := by simp; omega
      rw [ix_up (by omega) (by omega) hj0]
      rw [hlen] at hj1
      exact fl_step hj0 hi
  · refine E_iload_n (pc' := 6) g161_5 rfl rfl ?_
    refine E_iload_n (pc' := 7) g161_6 rfl rfl ?_
    refine E_icge (pc' := 10) (pt := 20) g161_7 rfl rfl (fun c1 => ?_) (fun c1 => ?_)
    · exact E_ret g161_20 rt161 rfl (by simp)
    · exact absurd c1 (by omega)
/-- whether a square is open -/
def isO (bl : List Int) (s : Int) : Int := if 0 ≤ s ∧ s < 6 ∧ ix bl s = -9 then 1 else 0
theorem C_isOpen {H : mH} {a : Nat} {bl sk : List Int} {s : Int} (hL : isLay H a bl sk) : Call 0 17 [mR a, mI s] H (mI (isO bl s)) H := by
  obtain ⟨h0, h1, h2, l1, l2, ob, ok⟩ := hL
  refine Call_of rfl ?_
  refine E_iload_n (pc' := 1) g17_0 rfl rfl ?_
  refine E_iflt (pc' := 4) (pt := 25) g17_1 rfl rfl (fun c0 => ?_) (fun c0 => ?_)
  · refine E_iconst (pc' := 26) g17_25 (by decide) rfl ?_
    exact E_iret g17_26 (ro17 (by omega)) (by unfold isO; first | rw [if_pos (by omega)] | rw [if_neg (by omega)]) rfl
  · refine E_iload_n (pc' := 5) g17_4 rfl rfl ?_
    refine E_bipush (pc' := 7) g17_5 (by decide) rfl ?_
    refine E_icge (pc' := 10) (pt := 25) g17_7 rfl rfl (fun c1 => ?_) (fun c1 => ?_)
    · refine E_iconst (pc' := 26) g17_25 (by decide) rfl ?_
      exact E_iret g17_26 (ro17 (by omega)) (by unfold isO; first | rw [if_pos (by omega)] | rw [if_neg (by omega)]) rfl
    · refine E_aload_n (pc' := 11) g17_10 rfl rfl ?_
      refine E_getR (pc' := 14) g17_11 f17_9 tg2_0 rfl (by assumption) rfl ?_
      refine E_iload_n (pc' := 15) g17_14 rfl rfl ?_
      refine E_iaload (pc' := 16) g17_15 rfl (by assumption) (by omega) (by omega) ?_
      refine E_bipush (pc' := 18) g17_16 (by decide) rfl ?_
      refine E_icne (pc' := 21) (pt := 25) g17_18 rfl rfl (fun c2 => ?_) (fun c2 => ?_)
      · refine E_iconst (pc' := 26) g17_25 (by decide) rfl ?_
        exact E_iret g17_26 (ro17 (by omega)) (by unfold isO; first | rw [if_pos (by omega)] | rw [if_neg (by omega)]) rfl
      · refine E_iconst (pc' := 22) g17_21 (by decide) rfl ?_
        refine E_goto (pc' := 26) g17_22 rfl ?_
        exact E_iret g17_26 (ro17 (by omega)) (by unfold isO; first | rw [if_pos (by omega)] | rw [if_neg (by omega)]) rfl
theorem C_leftOf {H : mH} {a : Nat} {bl sk : List Int} {k : Int} (hL : isLay H a bl sk) (hk : 0 ≤ k ∧ k < 6) : Call 0 18 [mR a, mI k] H (mI (ix sk k - nK bl k 6)) H := by
  obtain ⟨h0, h1, h2, l1, l2, ob, ok⟩ := hL
  have okk := ok k
  refine Call_of rfl ?_
  refine E_iload_n (pc' := 1) g18_0 rfl rfl ?_
  refine E_iflt (pc' := 4) (pt := 10) g18_1 rfl rfl (fun c0 => ?_) (fun c0 => ?_)
  · exact absurd c0 (by omega)
  · refine E_iload_n (pc' := 5) g18_4 rfl rfl ?_
    refine E_bipush (pc' := 7) g18_5 (by decide) rfl ?_
    refine E_iclt (pc' := 10) (pt := 12) g18_7 rfl rfl (fun c1 => ?_) (fun c1 => ?_)
    · refine E_iconst (pc' := 13) g18_12 (by decide) rfl ?_
      refine E_st2 (pc' := 14) g18_13 rfl ?_
      refine E_iconst (pc' := 15) g18_14 (by decide) rfl ?_
      refine E_st3 (pc' := 16) g18_15 rfl ?_
      refine E_loop (n := 6) (fun i => Ev 0 18 16 [mR a, mI k, mI (nK bl k i), mI (i : Int)] [] H (mI (ix sk k - nK bl k 6)) H) ?_ ?_ 0 (by omega)
      · intro i hi hh
        have hb := cn_bd (fun s => decide (0 ≤ ix bl s ∧ (ix bl s).tdiv 4 = k)) i
        unfold nK at hh ⊢
        refine E_iload_n (pc' := 17) g18_16 rfl rfl ?_
        refine E_bipush (pc' := 19) g18_17 (by decide) rfl ?_
        refine E_icge (pc' := 22) (pt := 52) g18_19 rfl rfl (fun c0 => ?_) (fun c0 => ?_)
        · exact absurd c0 (by omega)
        · refine E_aload_n (pc' := 23) g18_22 rfl rfl ?_
          refine E_getR (pc' := 26) g18_23 f18_9 tg2_0 rfl (by assumption) rfl ?_
          refine E_iload_n (pc' := 27) g18_26 rfl rfl ?_
          refine E_iaload (pc' := 28) g18_27 rfl (by assumption) (by omega) (by omega) ?_
          refine E_iflt (pc' := 31) (pt := 46) g18_28 rfl rfl (fun c1 => ?_) (fun c1 => ?_)
          · refine E_in3 (pc' := 49) g18_46 rfl (m_in_iff.mpr (by omega)) ?_
            refine E_goto (pc' := 16) g18_49 rfl ?_
            first | exact Ev_cast hh (by rw [cn_t (decide_eq_true (by omega))]; rfl) rfl | exact Ev_cast hh (by rw [cn_f (decide_eq_false (by omega))]; rfl) rfl
          · refine E_aload_n (pc' := 32) g18_31 rfl rfl ?_
            refine E_getR (pc' := 35) g18_32 f18_9 tg2_0 rfl (by assumption) rfl ?_
            refine E_iload_n (pc' := 36) g18_35 rfl rfl ?_
            refine E_iaload (pc' := 37) g18_36 rfl (by assumption) (by omega) (by omega) ?_
            refine E_iconst (pc' := 38) g18_37 (by decide) rfl ?_
            refine E_idiv (pc' := 39) g18_38 (by omega) rfl ?_
            refine E_iload_n (pc' := 40) g18_39 rfl rfl ?_
            refine E_icne (pc' := 43) (pt := 46) g18_40 rfl rfl (fun c2 => ?_) (fun c2 => ?_)
            · refine E_in3 (pc' := 49) g18_46 rfl (m_in_iff.mpr (by omega)) ?_
              refine E_goto (pc' := 16) g18_49 rfl ?_
              first | exact Ev_cast hh (by rw [cn_t (decide_eq_true (by omega))]; rfl) rfl | exact Ev_cast hh (by rw [cn_f (decide_eq_false (by omega))]; rfl) rfl
            · refine E_in2 (pc' := 46) g18_43 rfl (m_in_iff.mpr (by omega)) ?_
              refine E_in3 (pc' := 49) g18_46 rfl (m_in_iff.mpr (by omega)) ?_
              refine E_goto (pc' := 16) g18_49 rfl ?_
              first | exact Ev_cast hh (by rw [cn_t (decide_eq_true (by omega))]; rfl) rfl | exact Ev_cast hh (by rw [cn_f (decide_eq_false (by omega))]; rfl) rfl
      · have hb := cn_bd (fun s => decide (0 ≤ ix bl s ∧ (ix bl s).tdiv 4 = k)) 6
        unfold nK
        refine E_iload_n (pc' := 17) g18_16 rfl rfl ?_
        refine E_bipush (pc' := 19) g18_17 (by decide) rfl ?_
        refine E_icge (pc' := 22) (pt := 52) g18_19 rfl rfl (fun c3 => ?_) (fun c3 => ?_)
        · refine E_aload_n (pc' := 53) g18_52 rfl rfl ?_
          refine E_getR (pc' := 56) g18_53 f18_15 tg2_1 rfl (by assumption) rfl ?_
          refine E_iload_n (pc' := 57) g18_56 rfl rfl ?_
          refine E_iaload (pc' := 58) g18_57 rfl (by assumption) (by omega) (by omega) ?_
          refine E_iload_n (pc' := 59) g18_58 rfl rfl ?_
          refine E_isub (pc' := 60) g18_59 (m_in_iff.mpr (by omega)) rfl ?_
          exact E_iret g18_60 ro18 rfl rfl
        · exact absurd c3 (by omega)
    · exact absurd c1 (by omega)
end
section
/-! Layout's rest; the class Told -/
theorem wh_bd {w h : Int} (h1 : 1 ≤ w) (h2 : w ≤ 3) (h3 : 1 ≤ h) (h4 : h ≤ 2) : 1 ≤ w * h ∧ w * h ≤ 6 := by
  have hw : w = 1 ∨ w = 2 ∨ w = 3 := by omega
  rcases hw with rfl | rfl | rfl <;> omega
def bet (l : List Int) (lo hi : Int) : Prop := ∀ i : Int, lo ≤ ix l i ∧ ix l i ≤ hi
def okT (kd wd ht rm mo sd bo : Int) (ed hu sk hv : List Int) : Prop := (0 ≤ kd ∧ kd ≤ 6) ∧ (1 ≤ wd ∧ wd ≤ 3) ∧ (1 ≤ ht ∧ ht ≤ 2) ∧ (rm = -9 ∨ (0 ≤ rm ∧ rm ≤ 9)) ∧ (1 ≤ mo ∧ mo ≤ 9) ∧ (1 ≤ sd ∧ sd ≤ 9) ∧ (1 ≤ bo ∧ bo ≤ 4) ∧ bet ed 0 9 ∧ bet hu 0 5 ∧ bet sk 0 9 ∧ bet hv 0 16777215 ∧ ed.length = 24 ∧ hu.length = 6 ∧ sk.length = 6 ∧ hv.length = 40
def isTold (H : mH) (a : Nat) (kd wd ht rm mo sd bo : Int) (ed hu sk hv : List Int) : Prop := H[a]? = some (4, [kd, wd, ht, rm, mo, sd, bo, ((a + 1 : Nat) : Int), ((a + 2 : Nat) : Int), ((a + 3 : Nat) : Int), ((a + 4 : Nat) : Int)]) ∧ H[a + 1]? = some (8, ed) ∧ H[a + 2]? = some (8, hu) ∧ H[a + 3]? = some (8, sk) ∧ H[a + 4]? = some (8, hv) ∧ okT kd wd ht rm mo sd bo ed hu sk hv
section TD
variable {H : mH} {a b t : Nat} {bl sl bl2 sl2 : List Int} {kd wd ht rm mo sd bo : Int} {ed hu sk hv : List Int}
theorem C_openAll (hL : isLay H a bl sl) : Call 1 16 [mR a] H none (pt H (a + 1) (List.replicate 6 (-9))) := by
  obtain ⟨h0, h1, h2, l1, l2, ob, ok⟩ := hL
  refine Call_of rfl ?_
  refine E_aload_n (pc' := 1) g16_0 rfl rfl ?_
  refine E_getR (pc' := 4) g16_1 f16_9 tg2_0 rfl (by assumption) rfl ?_
  refine E_bipush (pc' := 6) g16_4 (by decide) rfl ?_
  refine E_cS2v (pc' := 9) g16_6 k16_30 na161 rfl rfl (Nat.le_of_ble_eq_true rfl) (C_fill h1 (by omega)) (by decide) ?_
  exact E_ret g16_9 rt16 rfl (by rw [l1])
theorem C_become (hL : isLay H a bl sl) (hM : isLay H b bl2 sl2) (hd : a + 3 ≤ b ∨ b + 3 ≤ a) : Call 1 15 [mR a, mR b] H none (pt (pt H (a + 1) bl2) (a + 2) sl2) := by
  obtain ⟨h0, h1, h2, l1, l2, ob, ok⟩ := hL
  obtain ⟨q0, q1, q2, m1, m2, oc, ok2⟩ := hM
  refine Call_of rfl ?_
  refine E_aload_n (pc' := 1) g15_0 rfl rfl ?_
  refine E_getR (pc' := 4) g15_1 f15_9 tg2_0 rfl (by first | assumption | exact pt_self (by assumption) | (rw [pt_ne (by omega)]; first | assumption | exact pt_self (by assumption) | (rw [pt_ne (by omega)]; first | assumption | exact pt_self (by assumption) | (rw [pt_ne (by omega)]; first | assumption | exact pt_self (by assumption))))) rfl ?_
  refine E_iconst (pc' := 5) g15_4 (by decide) rfl ?_
  refine E_aload_n (pc' := 6) g15_5 rfl rfl ?_
  refine E_getR (pc' := 9) g15_6 f15_9 tg2_0 rfl (by first | assumption | exact pt_self (by assumption) | (rw [pt_ne (by omega)]; first | assumption | exact pt_self (by assumption) | (rw [pt_ne (by omega)]; first | assumption | exact pt_self (by assumption) | (rw [pt_ne (by omega)]; first | assumption | exact pt_self (by assumption))))) rfl ?_
  refine E_iconst (pc' := 10) g15_9 (by decide) rfl ?_
  refine E_bipush (pc' := 12) g15_10 (by decide) rfl ?_
  refine E_copy (pc' := 15) g15_12 k15_24 rfl (Nat.le_of_ble_eq_true rfl) (by first | assumption | exact pt_self (by assumption) | (rw [pt_ne (by omega)]; first | assumption | exact pt_self (by assumption) | (rw [pt_ne (by omega)]; first | assumption | exact pt_self (by assumption) | (rw [pt_ne (by omega)]; first | assumption | exact pt_self (by assumption))))) (by first | assumption | exact pt_self (by assumption) | (rw [pt_ne (by omega)]; first | assumption | exact pt_self (by assumption) | (rw [pt_ne (by omega)]; first | assumption | exact pt_self (by assumption) | (rw [pt_ne (by omega)]; first | assumption | exact pt_self (by assumption))))) (by omega) (by omega) ?_
  refine E_aload_n (pc' := 16) g15_15 rfl rfl ?_
  refine E_getR (pc' := 19) g15_16 f15_15 tg2_1 rfl (by first | assumption | exact pt_self (by assumption) | (rw [pt_ne (by omega)]; first | assumption | exact pt_self (by assumption) | (rw [pt_ne (by omega)]; first | assumption | exact pt_self (by assumption) | (rw [pt_ne (by omega)]; first | assumption | exact pt_self (by assumption))))) rfl ?_
  refine E_iconst (pc' := 20) g15_19 (by decide) rfl ?_
  refine E_aload_n (pc' := 21) g15_20 rfl rfl ?_
  refine E_getR (pc' := 24) g15_21 f15_15 tg2_1 rfl (by first | assumption | exact pt_self (by assumption) | (rw [pt_ne (by omega)]; first | assumption | exact pt_self (by assumption) | (rw [pt_ne (by omega)]; first | assumption | exact pt_self (by assumption) | (rw [pt_ne (by omega)]; first | assumption | exact pt_self (by assumption))))) rfl ?_
  refine E_iconst (pc' := 25) g15_24 (by decide) rfl ?_
  refine E_bipush (pc' := 27) g15_25 (by decide) rfl ?_
  refine E_copy (pc' := 30) g15_27 k15_24 rfl (Nat.le_of_ble_eq_true rfl) (by first | assumption | exact pt_self (by assumption) | (rw [pt_ne (by omega)]; first | assumption | exact pt_self (by assumption) | (rw [pt_ne (by omega)]; first | assumption | exact pt_self (by assumption) | (rw [pt_ne (by omega)]; first | assumption | exact pt_self (by assumption))))) (by first | assumption | exact pt_self (by assumption) | (rw [pt_ne (by omega)]; first | assumption | exact pt_self (by assumption) | (rw [pt_ne (by omega)]; first | assumption | exact pt_self (by assumption) | (rw [pt_ne (by omega)]; first | assumption | exact pt_self (by assumption))))) (by omega) (by omega) ?_
  exact E_ret g15_30 rt15 rfl rfl
theorem C_begin (hL : isLay H a bl sl) (hT : isTold H t kd wd ht rm mo sd bo ed hu sk hv) (hd : a + 3 ≤ t ∨ t + 5 ≤ a) : Call 2 14 [mR a, mR t] H none (pt (pt H (a + 1) (List.replicate 6 (-9))) (a + 2) sk) := by
  have hL0 := hL
  obtain ⟨h0, h1, h2, l1, l2, ob, ok⟩ := hL
  obtain ⟨t0, t1, t2, t3, t4, ⟨r1, r2, r3, r4, r5, r6, r7, b1, b2, b3, b4, n1, n2, n3, n4⟩⟩ := hT
  refine Call_of rfl ?_
  refine E_aload_n (pc' := 1) g14_0 rfl rfl ?_
  refine E_cV0v (pc' := 4) g14_1 k14_18 na16 rfl ow16 rfl (Nat.le_of_ble_eq_true rfl) (by assumption) (C_openAll hL0) (by decide) ?_
  refine E_aload_n (pc' := 5) g14_4 rfl rfl ?_
  refine E_getR (pc' := 8) g14_5 f14_21 tg4_9 rfl (by first | assumption | exact pt_self (by assumption) | (rw [pt_ne (by omega)]; first | assumption | exact pt_self (by assumption) | (rw [pt_ne (by omega)]; first | assumption | exact pt_self (by assumption) | (rw [pt_ne (by omega)]; first | assumption | exact pt_self (by assumption))))) rfl ?_
  refine E_iconst (pc' := 9) g14_8 (by decide) rfl ?_
  refine E_aload_n (pc' := 10) g14_9 rfl rfl ?_
  refine E_getR (pc' := 13) g14_10 f14_15 tg2_1 rfl (by first | assumption | exact pt_self (by assumption) | (rw [pt_ne (by omega)]; first | assumption | exact pt_self (by assumption) | (rw [pt_ne (by omega)]; first | assumption | exact pt_self (by assumption) | (rw [pt_ne (by omega)]; first | assumption | exact pt_self (by assumption))))) rfl ?_
  refine E_iconst (pc' := 14) g14_13 (by decide) rfl ?_
  refine E_bipush (pc' := 16) g14_14 (by decide) rfl ?_
  refine E_copy (pc' := 19) g14_16 k14_24 rfl (Nat.le_of_ble_eq_true rfl) (by first | assumption | exact pt_self (by assumption) | (rw [pt_ne (by omega)]; first | assumption | exact pt_self (by assumption) | (rw [pt_ne (by omega)]; first | assumption | exact pt_self (by assumption) | (rw [pt_ne (by omega)]; first | assumption | exact pt_self (by assumption))))) (by first | assumption | exact pt_self (by assumption) | (rw [pt_ne (by omega)]; first | assumption | exact pt_self (by assumption) | (rw [pt_ne (by omega)]; first | assumption | exact pt_self (by assumption) | (rw [pt_ne (by omega)]; first | assumption | exact pt_self (by assumption))))) (by omega) (by omega) ?_
  exact E_ret g14_19 rt14 rfl rfl
theorem C_sqHue (hL : isLay H a bl sl) (hT : isTold H t kd wd ht rm mo sd bo ed hu sk hv) {v : Int} : Call 0 19 [mR a, mR t, mI v] H (mI (nH bl hu v 6)) H := by
  obtain ⟨h0, h1, h2, l1, l2, ob, ok⟩ := hL
  obtain ⟨t0, t1, t2, t3, t4, ⟨r1, r2, r3, r4, r5, r6, r7, b1, b2, b3, b4, n1, n2, n3, n4⟩⟩ := hT
  refine Call_of rfl ?_
  refine E_iconst (pc' := 1) g19_0 (by decide) rfl ?_
  refine E_st3 (pc' := 2) g19_1 rfl ?_
  refine E_iconst (pc' := 3) g19_2 (by decide) rfl ?_
  refine E_st4 (pc' := 5) g19_3 rfl ?_
  suffices key : ∀ i : Nat, i ≤ 6 → ∀ x : mV, Ev 0 19 5 [mR a, mR t, mI v, mI (nH bl hu v i), mI (i : Int), x] [] H (mI (nH bl hu v 6)) H from key 0 (by omega) none
  refine E_loop (n := 6) (fun i => ∀ x : mV, Ev 0 19 5 [mR a, mR t, mI v, mI (nH bl hu v i), mI (i : Int), x] [] H (mI (nH bl hu v 6)) H) ?_ ?_
  · intro i hi hh
    intro x
    have hb := cn_bd (fun s => decide (0 ≤ ix bl s ∧ ix hu ((ix bl s).tdiv 4) = v)) i
    unfold nH at hh ⊢
    refine E_iload (pc' := 7) g19_5 rfl rfl ?_
    refine E_bipush (pc' := 9) g19_7 (by decide) rfl ?_
    refine E_icge (pc' := 12) (pt := 60) g19_9 rfl rfl (fun c0 => ?_) (fun c0 => ?_)
    · exact absurd c0 (by omega)
    · refine E_aload_n (pc' := 13) g19_12 rfl rfl ?_
      refine E_getR (pc' := 16) g19_13 f19_9 tg2_0 rfl (by first | assumption | exact pt_self (by assumption) | (rw [pt_ne (by omega)]; first | assumption | exact pt_self (by assumption) | (rw [pt_ne (by omega)]; first | assumption | exact pt_self (by assumption) | (rw [pt_ne (by omega)]; first | assumption | exact pt_self (by assumption))))) rfl ?_
      refine E_iload (pc' := 18) g19_16 rfl rfl ?_
      refine E_iaload (pc' := 19) g19_18 rfl (by first | assumption | exact pt_self (by assumption) | (rw [pt_ne (by omega)]; first | assumption | exact pt_self (by assumption) | (rw [pt_ne (by omega)]; first | assumption | exact pt_self (by assumption) | (rw [pt_ne (by omega)]; first | assumption | exact pt_self (by assumption))))) (by omega) (by omega) ?_
      refine E_iconst (pc' := 20) g19_19 (by decide) rfl ?_
      refine E_idiv (pc' := 21) g19_20 (by omega) rfl ?_
      refine E_st5 (pc' := 23) g19_21 rfl ?_
      refine E_aload_n (pc' := 24) g19_23 rfl rfl ?_
      refine E_getR (pc' := 27) g19_24 f19_9 tg2_0 rfl (by first | assumption | exact pt_self (by assumption) | (rw [pt_ne (by omega)]; first | assumption | exact pt_self (by assumption) | (rw [pt_ne (by omega)]; first | assumption | exact pt_self (by assumption) | (rw [pt_ne (by omega)]; first | assumption | exact pt_self (by assumption))))) rfl ?_
      refine E_iload (pc' := 29) g19_27 rfl rfl ?_
      refine E_iaload (pc' := 30) g19_29 rfl (by first | assumption | exact pt_self (by assumption) | (rw [pt_ne (by omega)]; first | assumption | exact pt_self (by assumption) | (rw [pt_ne (by omega)]; first | assumption | exact pt_self (by assumption) | (rw [pt_ne (by omega)]; first | assumption | exact pt_self (by assumption))))) (by omega) (by omega) ?_
      refine E_iflt (pc' := 33) (pt := 54) g19_30 rfl rfl (fun c1 => ?_) (fun c1 => ?_)
      · refine E_in4 (pc' := 57) g19_54 rfl (m_in_iff.mpr (by omega)) ?_
        refine E_goto (pc' := 5) g19_57 rfl ?_
        first | exact Ev_cast (hh _) (by rw [cn_t (decide_eq_true (by omega))]; rfl) rfl | exact Ev_cast (hh _) (by rw [cn_f (decide_eq_false (by omega))]; rfl) rfl
      · have q := td4 (x := ix bl i) (by omega) (by have := ob i; omega)
        refine E_iload (pc' := 35) g19_33 rfl rfl ?_
        refine E_bipush (pc' := 37) g19_35 (by decide) rfl ?_
        refine E_icge (pc' := 40) (pt := 54) g19_37 rfl rfl (fun c2 => ?_) (fun c2 => ?_)
        · exact absurd c2 (by omega)
        · refine E_aload_n (pc' := 41) g19_40 rfl rfl ?_
          refine E_getR (pc' := 44) g19_41 f19_36 tg4_8 rfl (by first | assumption | exact pt_self (by assumption) | (rw [pt_ne (by omega)]; first | assumption | exact pt_self (by assumption) | (rw [pt_ne (by omega)]; first | assumption | exact pt_self (by assumption) | (rw [pt_ne (by omega)]; first | assumption | exact pt_self (by assumption))))) rfl ?_
          refine E_iload (pc' := 46) g19_44 rfl rfl ?_
          refine E_iaload (pc' := 47) g19_46 rfl (by first | assumption | exact pt_self (by assumption) | (rw [pt_ne (by omega)]; first | assumption | exact pt_self (by assumption) | (rw [pt_ne (by omega)]; first | assumption | exact pt_self (by assumption) | (rw [pt_ne (by omega)]; first | assumption | exact pt_self (by assumption))))) (by omega) (by omega) ?_
          refine E_iload_n (pc' := 48) g19_47 rfl rfl ?_
          refine E_icne (pc' := 51) (pt := 54) g19_48 rfl rfl (fun c3 => ?_) (fun c3 => ?_)
          · refine E_in4 (pc' := 57) g19_54 rfl (m_in_iff.mpr (by omega)) ?_
            refine E_goto (pc' := 5) g19_57 rfl ?_
            first | exact Ev_cast (hh _) (by rw [cn_t (decide_eq_true (by omega))]; rfl) rfl | exact Ev_cast (hh _) (by rw [cn_f (decide_eq_false (by omega))]; rfl) rfl
          · refine E_in3 (pc' := 54) g19_51 rfl (m_in_iff.mpr (by omega)) ?_
            refine E_in4 (pc' := 57) g19_54 rfl (m_in_iff.mpr (by omega)) ?_
            refine E_goto (pc' := 5) g19_57 rfl ?_
            first | exact Ev_cast (hh _) (by rw [cn_t (decide_eq_true (by omega))]; rfl) rfl | exact Ev_cast (hh _) (by rw [cn_f (decide_eq_false (by omega))]; rfl) rfl
  · intro x
    refine E_iload (pc' := 7) g19_5 rfl rfl ?_
    refine E_bipush (pc' := 9) g19_7 (by decide) rfl ?_
    refine E_icge (pc' := 12) (pt := 60) g19_9 rfl rfl (fun c4 => ?_) (fun c4 => ?_)
    · refine E_iload_n (pc' := 61) g19_60 rfl rfl ?_
      exact E_iret g19_61 ro19 rfl rfl
    · exact absurd c4 (by omega)
theorem C_squares (hT : isTold H a kd wd ht rm mo sd bo ed hu sk hv) : Call 1 36 [mR a] H (mI (wd * ht)) H := by
  obtain ⟨t0, t1, t2, t3, t4, ⟨r1, r2, r3, r4, r5, r6, r7, b1, b2, b3, b4, n1, n2, n3, n4⟩⟩ := hT
  have hw := wh_bd r2.1 r2.2 r3.1 r3.2
  refine Call_of rfl ?_
  refine E_aload_n (pc' := 1) g36_0 rfl rfl ?_
  refine E_getI (pc' := 4) g36_1 f36_31 tg4_1 (by decide) rfl (by assumption) rfl ?_
  refine E_aload_n (pc' := 5) g36_4 rfl rfl ?_
  refine E_getI (pc' := 8) g36_5 f36_34 tg4_2 (by decide) rfl (by assumption) rfl ?_
  refine E_imul (pc' := 9) g36_8 (m_in_iff.mpr (by omega)) rfl ?_
  refine E_bipush (pc' := 11) g36_9 (by decide) rfl ?_
  refine E_min (pc' := 14) g36_11 k36_49 rfl (Nat.le_of_ble_eq_true rfl) ?_
  exact E_iret g36_14 ro36 (by rw [Int.min_eq_left (by omega)]) rfl
/-- an edge of a block as it is turned -/
def eo (ed : List Int) (b h : Int) : Int := if 0 ≤ b ∧ b < 24 ∧ 0 ≤ h ∧ h < 4 then ix ed (b.tdiv 4 * 4 + (h + 4 - b.tmod 4).tmod 4) else -9
theorem tm4 {x : Int} (h0 : 0 ≤ x) : 0 ≤ x.tmod 4 ∧ x.tmod 4 < 4 := by
  rw [Int.tmod_eq_emod_of_nonneg h0]
  omega
theorem C_edgeOf (hT : isTold H a kd wd ht rm mo sd bo ed hu sk hv) {b h : Int} : Call 0 37 [mR a, mI b, mI h] H (mI (eo ed b h)) H := by
  obtain ⟨t0, t1, t2, t3, t4, ⟨r1, r2, r3, r4, r5, r6, r7, b1, b2, b3, b4, n1, n2, n3, n4⟩⟩ := hT
  refine Call_of rfl ?_
  refine E_iload_n (pc' := 1) g37_0 rfl rfl ?_
  refine E_iflt (pc' := 4) (pt := 19) g37_1 rfl rfl (fun c0 => ?_) (fun c0 => ?_)
  · refine E_bipush (pc' := 21) g37_19 (by decide) rfl ?_
    exact E_iret g37_21 ro37 (by unfold eo; first | rw [if_pos (by omega)] | rw [if_neg (by omega)]) rfl
  · refine E_iload_n (pc' := 5) g37_4 rfl rfl ?_
    refine E_bipush (pc' := 7) g37_5 (by decide) rfl ?_
    refine E_icge (pc' := 10) (pt := 19) g37_7 rfl rfl (fun c1 => ?_) (fun c1 => ?_)
    · refine E_bipush (pc' := 21) g37_19 (by decide) rfl ?_
      exact E_iret g37_21 ro37 (by unfold eo; first | rw [if_pos (by omega)] | rw [if_neg (by omega)]) rfl
    · refine E_iload_n (pc' := 11) g37_10 rfl rfl ?_
      refine E_iflt (pc' := 14) (pt := 19) g37_11 rfl rfl (fun c2 => ?_) (fun c2 => ?_)
      · refine E_bipush (pc' := 21) g37_19 (by decide) rfl ?_
        exact E_iret g37_21 ro37 (by unfold eo; first | rw [if_pos (by omega)] | rw [if_neg (by omega)]) rfl
      · refine E_iload_n (pc' := 15) g37_14 rfl rfl ?_
        refine E_iconst (pc' := 16) g37_15 (by decide) rfl ?_
        refine E_iclt (pc' := 19) (pt := 22) g37_16 rfl rfl (fun c3 => ?_) (fun c3 => ?_)
        · have q1 := td4 (x := b) (by omega) (by omega)
          have q2 := tm4 (x := b) (by omega)
          refine E_iload_n (pc' := 23) g37_22 rfl rfl ?_
          refine E_iconst (pc' := 24) g37_23 (by decide) rfl ?_
          refine E_irem (pc' := 25) g37_24 (by omega) rfl ?_
          refine E_st3 (pc' := 26) g37_25 rfl ?_
          refine E_aload_n (pc' := 27) g37_26 rfl rfl ?_
          refine E_getR (pc' := 30) g37_27 f37_9 tg4_7 rfl (by assumption) rfl ?_
          refine E_iload_n (pc' := 31) g37_30 rfl rfl ?_
          refine E_iconst (pc' := 32) g37_31 (by decide) rfl ?_
          refine E_idiv (pc' := 33) g37_32 (by omega) rfl ?_
          refine E_iconst (pc' := 34) g37_33 (by decide) rfl ?_
          refine E_imul (pc' := 35) g37_34 (m_in_iff.mpr (by omega)) rfl ?_
          refine E_iload_n (pc' := 36) g37_35 rfl rfl ?_
          refine E_iconst (pc' := 37) g37_36 (by decide) rfl ?_
          refine E_iadd (pc' := 38) g37_37 (m_in_iff.mpr (by omega)) rfl ?_
          refine E_iload_n (pc' := 39) g37_38 rfl rfl ?_
          refine E_isub (pc' := 40) g37_39 (m_in_iff.mpr (by omega)) rfl ?_
          refine E_iconst (pc' := 41) g37_40 (by decide) rfl ?_
          refine E_irem (pc' := 42) g37_41 (by omega) rfl ?_
          have q3 := tm4 (x := h + 4 - b.tmod 4) (by omega)
          refine E_iadd (pc' := 43) g37_42 (m_in_iff.mpr (by omega)) rfl ?_
          refine E_iaload (pc' := 44) g37_43 rfl (by assumption) (by omega) (by omega) ?_
          exact E_iret g37_44 ro37 (by unfold eo; first | rw [if_pos (by omega)] | rw [if_neg (by omega)]) rfl
        · refine E_bipush (pc' := 21) g37_19 (by decide) rfl ?_
          exact E_iret g37_21 ro37 (by unfold eo; first | rw [if_pos (by omega)] | rw [if_neg (by omega)]) rfl
def lk (ed : List Int) (x z : Int) : Prop := ∀ h : Nat, h < 4 → eo ed x h = eo ed z h
theorem C_looksLike (hT : isTold H a kd wd ht rm mo sd bo ed hu sk hv) {x z r : Int} (hr : (lk ed x z → r = 1) ∧ (¬ lk ed x z → r = 0)) : Call 1 39 [mR a, mI x, mI z] H (mI r) H := by
  have hT0 := hT
  obtain ⟨t0, t1, t2, t3, t4, ⟨r1, r2, r3, r4, r5, r6, r7, b1, b2, b3, b4, n1, n2, n3, n4⟩⟩ := hT
  refine Call_of rfl ?_
  refine E_iconst (pc' := 1) g39_0 (by decide) rfl ?_
  refine E_st3 (pc' := 2) g39_1 rfl ?_
  refine (E_loop (n := 4) (fun i => (∀ j : Nat, j < i → eo ed x j = eo ed z j) → Ev 1 39 2 [mR a, mI x, mI z, mI (i : Int)] [] H (mI r) H) ?_ ?_ 0 (by omega)) (fun j hj => absurd hj (by omega))
  · intro i hi hh hall
    refine E_iload_n (pc' := 3) g39_2 rfl rfl ?_
    refine E_iconst (pc' := 4) g39_3 (by decide) rfl ?_
    refine E_icge (pc' := 7) (pt := 30) g39_4 rfl rfl (fun c0 => ?_) (fun c0 => ?_)
    · exact absurd c0 (by omega)
    · refine E_aload_n (pc' := 8) g39_7 rfl rfl ?_
      refine E_iload_n (pc' := 9) g39_8 rfl rfl ?_
      refine E_iload_n (pc' := 10) g39_9 rfl rfl ?_
      refine E_cV2i (pc' := 13) g39_10 k39_59 na37 rfl ow37 rfl (Nat.le_of_ble_eq_true rfl) (by assumption) (C_edgeOf hT0) (by decide) ?_
      refine E_aload_n (pc' := 14) g39_13 rfl rfl ?_
      refine E_iload_n (pc' := 15) g39_14 rfl rfl ?_
      refine E_iload_n (pc' := 16) g39_15 rfl rfl ?_
      refine E_cV2i (pc' := 19) g39_16 k39_59 na37 rfl ow37 rfl (Nat.le_of_ble_eq_true rfl) (by assumption) (C_edgeOf hT0) (by decide) ?_
      refine E_iceq (pc' := 22) (pt := 24) g39_19 rfl rfl (fun c1 => ?_) (fun c1 => ?_)
      · refine E_in3 (pc' := 27) g39_24 rfl (m_in_iff.mpr (by omega)) ?_
        refine E_goto (pc' := 2) g39_27 rfl ?_
        exact hh (fun j hj => by
          rcases Nat.lt_or_ge j i with q | q
          · exact hall j q
          · rw [show j = i by omega]; assumption)
      · refine E_iconst (pc' := 23) g39_22 (by decide) rfl ?_
        exact E_iret g39_23 (ro39 (by omega)) (by rw [hr.2 (fun q => absurd (q i hi) (by assumption))]) rfl
  · intro hall
    refine E_iload_n (pc' := 3) g39_2 rfl rfl ?_
    refine E_iconst (pc' := 4) g39_3 (by decide) rfl ?_
    refine E_icge (pc' := 7) (pt := 30) g39_4 rfl rfl (fun c0 => ?_) (fun c0 => ?_)
    · refine E_iconst (pc' := 31) g39_30 (by decide) rfl ?_
      exact E_iret g39_31 (ro39 (by omega)) (by rw [hr.1 (fun j hj => hall j hj)]) rfl
    · exact absurd c0 (by omega)
def plain (ed : List Int) (x : Int) : Prop := ∀ z : Int, x - x.tmod 4 ≤ z → z < x → ¬ lk ed z x
theorem C_isPlain (hT : isTold H a kd wd ht rm mo sd bo ed hu sk hv) {x r : Int} (hx : 0 ≤ x ∧ x < 24) (hr : (plain ed x → r = 1) ∧ (¬ plain ed x → r = 0)) : Call 2 38 [mR a, mI x] H (mI r) H := by
  have hT0 := hT
  obtain ⟨t0, t1, t2, t3, t4, ⟨r1, r2, r3, r4, r5, r6, r7, b1, b2, b3, b4, n1, n2, n3, n4⟩⟩ := hT
  have q2 := tm4 (x := x) (by omega)
  refine Call_of rfl ?_
  refine E_iload_n (pc' := 1) g38_0 rfl rfl ?_
  refine E_iload_n (pc' := 2) g38_1 rfl rfl ?_
  refine E_iconst (pc' := 3) g38_2 (by decide) rfl ?_
  refine E_irem (pc' := 4) g38_3 (by omega) rfl ?_
  refine E_isub (pc' := 5) g38_4 (m_in_iff.mpr (by omega)) rfl ?_
  refine E_st2 (pc' := 6) g38_5 rfl ?_
  obtain ⟨n, hn⟩ : ∃ n : Nat, (n : Int) = x.tmod 4 := ⟨(x.tmod 4).toNat, by omega⟩
  refine Ev_cast ((E_loop (n := n) (fun i => (∀ z : Int, x - n ≤ z → z < x - n + i → ¬ lk ed z x) → Ev 2 38 6 [mR a, mI x, mI (x - n + i)] [] H (mI r) H) ?_ ?_ 0 (by omega)) (fun z h1 h2 => absurd h2 (by omega))) (by rw [hn]; simp) rfl
  · intro i hi hh hall
    obtain ⟨lkI, hlk⟩ : ∃ v : Int, (lk ed (x - n + i) x → v = 1) ∧ (¬ lk ed (x - n + i) x → v = 0) := by
      by_cases q : lk ed (x - n + i) x
      · exact ⟨1, fun _ => rfl, fun z => absurd q z⟩
      · exact ⟨0, fun z => absurd z q, fun _ => rfl⟩
    refine E_iload_n (pc' := 7) g38_6 rfl rfl ?_
    refine E_iload_n (pc' := 8) g38_7 rfl rfl ?_
    refine E_icge (pc' := 11) (pt := 28) g38_8 rfl rfl (fun c0 => ?_) (fun c0 => ?_)
    · exact absurd c0 (by omega)
    · refine E_aload_n (pc' := 12) g38_11 rfl rfl ?_
      refine E_iload_n (pc' := 13) g38_12 rfl rfl ?_
      refine E_iload_n (pc' := 14) g38_13 rfl rfl ?_
      refine E_cV2i (pc' := 17) g38_14 k38_55 na39 rfl ow39 rfl (Nat.le_of_ble_eq_true rfl) (by assumption) (C_looksLike hT0 (r := lkI) hlk) (by decide) ?_
      refine E_ifeq (pc' := 20) (pt := 22) g38_17 rfl rfl (fun c1 => ?_) (fun c1 => ?_)
      · refine E_in2 (pc' := 25) g38_22 rfl (m_in_iff.mpr (by omega)) ?_
        refine E_goto (pc' := 6) g38_25 rfl ?_
        refine Ev_cast (hh (fun z h1 h2 => ?_)) (by simp; omega) rfl
        by_cases e : z < x - n + i
        · exact hall z h1 e
        · rw [show z = x - n + i by omega]
          intro q
          have := hlk.1 q
          omega
      · refine E_iconst (pc' := 21) g38_20 (by decide) rfl ?_
        exact E_iret g38_21 (ro38 (by omega)) (by rw [hr.2 (fun q => q (x - n + i) (by omega) (by omega) (Classical.byContradiction (fun z => by have := hlk.2 z; omega)))]) rfl
  · intro hall
    refine E_iload_n (pc' := 7) g38_6 rfl rfl ?_
    refine E_iload_n (pc' := 8) g38_7 rfl rfl ?_
    refine E_icge (pc' := 11) (pt := 28) g38_8 rfl rfl (fun c0 => ?_) (fun c0 => ?_)
    · refine E_iconst (pc' := 29) g38_28 (by decide) rfl ?_
      exact E_iret g38_29 (ro38 (by omega)) (by rw [hr.1 (fun z h1 h2 => hall z (by omega) (by omega))]) rfl
    · exact absurd c0 (by omega)
end TD
end
