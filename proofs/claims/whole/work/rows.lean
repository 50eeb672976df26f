section
-- ===== PART A: goes FIRST, ahead of the names: the tables' words, and 'selects' of the private methods out of them =====
/-- a private method of a class that the tables say can be made, by its rows of tables_1 -/
def lw_okq (q : MethodName × Nat) : Prop := (q.1.cls ≠ "java/lang/invoke/MethodHandle" ∧ q.1.cls ≠ "java/lang/invoke/VarHandle") ∧ Cond.instantiable q.1.cls q.2 ∈ tables_1 ∧ Cond.privateMethod q.1 ∈ tables_1 ∧ Cond.instanceMethod q.1 ∈ tables_1
theorem lw_p0 : lw_okq (⟨"QuiltPatches$Reader", "startAnew", "(LQuiltPatches$Told;)V"⟩, 8) := ⟨⟨by decide +kernel, by decide +kernel⟩, List.mem_of_getElem? (i := 22) (by decide +kernel), List.mem_of_getElem? (i := 300) (by decide +kernel), List.mem_of_getElem? (i := 301) (by decide +kernel)⟩
theorem lw_p1 : lw_okq (⟨"QuiltPatches$Reader", "readToken", "([II)V"⟩, 8) := ⟨⟨by decide +kernel, by decide +kernel⟩, List.mem_of_getElem? (i := 22) (by decide +kernel), List.mem_of_getElem? (i := 308) (by decide +kernel), List.mem_of_getElem? (i := 309) (by decide +kernel)⟩
theorem lw_p2 : lw_okq (⟨"QuiltPatches$Reader", "readNumber", "([II)V"⟩, 8) := ⟨⟨by decide +kernel, by decide +kernel⟩, List.mem_of_getElem? (i := 22) (by decide +kernel), List.mem_of_getElem? (i := 315) (by decide +kernel), List.mem_of_getElem? (i := 316) (by decide +kernel)⟩
theorem lw_p3 : lw_okq (⟨"QuiltPatches$Reader", "readItem", "(LQuiltPatches$Told;[II)Z"⟩, 8) := ⟨⟨by decide +kernel, by decide +kernel⟩, List.mem_of_getElem? (i := 22) (by decide +kernel), List.mem_of_getElem? (i := 322) (by decide +kernel), List.mem_of_getElem? (i := 323) (by decide +kernel)⟩
theorem lw_p4 : lw_okq (⟨"QuiltPatches$Reader", "mayStart", "(LQuiltPatches$Told;I)Z"⟩, 8) := ⟨⟨by decide +kernel, by decide +kernel⟩, List.mem_of_getElem? (i := 22) (by decide +kernel), List.mem_of_getElem? (i := 326) (by decide +kernel), List.mem_of_getElem? (i := 327) (by decide +kernel)⟩
theorem lw_p5 : lw_okq (⟨"QuiltPatches$Reader", "put", "(LQuiltPatches$Told;III)V"⟩, 8) := ⟨⟨by decide +kernel, by decide +kernel⟩, List.mem_of_getElem? (i := 22) (by decide +kernel), List.mem_of_getElem? (i := 341) (by decide +kernel), List.mem_of_getElem? (i := 342) (by decide +kernel)⟩
theorem lw_p6 : lw_okq (⟨"QuiltPatches$Reader", "putKind", "(LQuiltPatches$Told;II)V"⟩, 8) := ⟨⟨by decide +kernel, by decide +kernel⟩, List.mem_of_getElem? (i := 22) (by decide +kernel), List.mem_of_getElem? (i := 345) (by decide +kernel), List.mem_of_getElem? (i := 346) (by decide +kernel)⟩
theorem lw_p7 : lw_okq (⟨"QuiltPatches", "forgetImages", "()V"⟩, 16) := ⟨⟨by decide +kernel, by decide +kernel⟩, List.mem_of_getElem? (i := 14) (by decide +kernel), List.mem_of_getElem? (i := 373) (by decide +kernel), List.mem_of_getElem? (i := 374) (by decide +kernel)⟩
theorem lw_p8 : lw_okq (⟨"QuiltPatches", "isKind", "(I)Z"⟩, 16) := ⟨⟨by decide +kernel, by decide +kernel⟩, List.mem_of_getElem? (i := 14) (by decide +kernel), List.mem_of_getElem? (i := 381) (by decide +kernel), List.mem_of_getElem? (i := 382) (by decide +kernel)⟩
theorem lw_p9 : lw_okq (⟨"QuiltPatches", "isBlock", "(I)Z"⟩, 16) := ⟨⟨by decide +kernel, by decide +kernel⟩, List.mem_of_getElem? (i := 14) (by decide +kernel), List.mem_of_getElem? (i := 394) (by decide +kernel), List.mem_of_getElem? (i := 395) (by decide +kernel)⟩
theorem lw_p10 : lw_okq (⟨"QuiltPatches", "isSquare", "(I)Z"⟩, 16) := ⟨⟨by decide +kernel, by decide +kernel⟩, List.mem_of_getElem? (i := 14) (by decide +kernel), List.mem_of_getElem? (i := 403) (by decide +kernel), List.mem_of_getElem? (i := 404) (by decide +kernel)⟩
theorem lw_p11 : lw_okq (⟨"QuiltPatches", "whyNot", "(II)I"⟩, 16) := ⟨⟨by decide +kernel, by decide +kernel⟩, List.mem_of_getElem? (i := 14) (by decide +kernel), List.mem_of_getElem? (i := 416) (by decide +kernel), List.mem_of_getElem? (i := 417) (by decide +kernel)⟩
theorem lw_p12 : lw_okq (⟨"QuiltPatches", "meetsNeighbours", "(II)Z"⟩, 16) := ⟨⟨by decide +kernel, by decide +kernel⟩, List.mem_of_getElem? (i := 14) (by decide +kernel), List.mem_of_getElem? (i := 420) (by decide +kernel), List.mem_of_getElem? (i := 421) (by decide +kernel)⟩
theorem lw_p13 : lw_okq (⟨"QuiltPatches", "keepsRim", "(II)Z"⟩, 16) := ⟨⟨by decide +kernel, by decide +kernel⟩, List.mem_of_getElem? (i := 14) (by decide +kernel), List.mem_of_getElem? (i := 431) (by decide +kernel), List.mem_of_getElem? (i := 432) (by decide +kernel)⟩
theorem lw_p14 : lw_okq (⟨"QuiltPatches", "remember", "()V"⟩, 16) := ⟨⟨by decide +kernel, by decide +kernel⟩, List.mem_of_getElem? (i := 14) (by decide +kernel), List.mem_of_getElem? (i := 439) (by decide +kernel), List.mem_of_getElem? (i := 440) (by decide +kernel)⟩
theorem lw_p15 : lw_okq (⟨"QuiltPatches", "openSquares", "()I"⟩, 16) := ⟨⟨by decide +kernel, by decide +kernel⟩, List.mem_of_getElem? (i := 14) (by decide +kernel), List.mem_of_getElem? (i := 448) (by decide +kernel), List.mem_of_getElem? (i := 449) (by decide +kernel)⟩
def lw_privs_1 : List (MethodName × Nat) := [(⟨"QuiltPatches$Reader", "startAnew", "(LQuiltPatches$Told;)V"⟩, 8), (⟨"QuiltPatches$Reader", "readToken", "([II)V"⟩, 8), (⟨"QuiltPatches$Reader", "readNumber", "([II)V"⟩, 8), (⟨"QuiltPatches$Reader", "readItem", "(LQuiltPatches$Told;[II)Z"⟩, 8), (⟨"QuiltPatches$Reader", "mayStart", "(LQuiltPatches$Told;I)Z"⟩, 8), (⟨"QuiltPatches$Reader", "put", "(LQuiltPatches$Told;III)V"⟩, 8), (⟨"QuiltPatches$Reader", "putKind", "(LQuiltPatches$Told;II)V"⟩, 8), (⟨"QuiltPatches", "forgetImages", "()V"⟩, 16), (⟨"QuiltPatches", "isKind", "(I)Z"⟩, 16), (⟨"QuiltPatches", "isBlock", "(I)Z"⟩, 16), (⟨"QuiltPatches", "isSquare", "(I)Z"⟩, 16), (⟨"QuiltPatches", "whyNot", "(II)I"⟩, 16), (⟨"QuiltPatches", "meetsNeighbours", "(II)Z"⟩, 16), (⟨"QuiltPatches", "keepsRim", "(II)Z"⟩, 16), (⟨"QuiltPatches", "remember", "()V"⟩, 16), (⟨"QuiltPatches", "openSquares", "()I"⟩, 16)]
theorem lw_r1 : ∀ q ∈ lw_privs_1, lw_okq q := List.forall_mem_cons.mpr ⟨lw_p0, List.forall_mem_cons.mpr ⟨lw_p1, List.forall_mem_cons.mpr ⟨lw_p2, List.forall_mem_cons.mpr ⟨lw_p3, List.forall_mem_cons.mpr ⟨lw_p4, List.forall_mem_cons.mpr ⟨lw_p5, List.forall_mem_cons.mpr ⟨lw_p6, List.forall_mem_cons.mpr ⟨lw_p7, List.forall_mem_cons.mpr ⟨lw_p8, List.forall_mem_cons.mpr ⟨lw_p9, List.forall_mem_cons.mpr ⟨lw_p10, List.forall_mem_cons.mpr ⟨lw_p11, List.forall_mem_cons.mpr ⟨lw_p12, List.forall_mem_cons.mpr ⟨lw_p13, List.forall_mem_cons.mpr ⟨lw_p14, List.forall_mem_cons.mpr ⟨lw_p15, fun _ h => absurd h List.not_mem_nil⟩⟩⟩⟩⟩⟩⟩⟩⟩⟩⟩⟩⟩⟩⟩⟩
theorem lw_p16 : lw_okq (⟨"QuiltPatches$Winnow", "supported", "(LQuiltPatches$Told;LQuiltPatches$Layout;I)I"⟩, 1) := ⟨⟨by decide +kernel, by decide +kernel⟩, List.mem_of_getElem? (i := 154) (by decide +kernel), List.mem_of_getElem? (i := 506) (by decide +kernel), List.mem_of_getElem? (i := 507) (by decide +kernel)⟩
theorem lw_p17 : lw_okq (⟨"QuiltPatches", "quiltsOf", "(LQuiltPatches$Layout;I)I"⟩, 16) := ⟨⟨by decide +kernel, by decide +kernel⟩, List.mem_of_getElem? (i := 14) (by decide +kernel), List.mem_of_getElem? (i := 542) (by decide +kernel), List.mem_of_getElem? (i := 543) (by decide +kernel)⟩
theorem lw_p18 : lw_okq (⟨"QuiltPatches$Finder", "roomInAll", "(LQuiltPatches$Told;)I"⟩, 9) := ⟨⟨by decide +kernel, by decide +kernel⟩, List.mem_of_getElem? (i := 166) (by decide +kernel), List.mem_of_getElem? (i := 554) (by decide +kernel), List.mem_of_getElem? (i := 555) (by decide +kernel)⟩
theorem lw_p19 : lw_okq (⟨"QuiltPatches$Finder", "giveFrom", "(LQuiltPatches$Told;I)V"⟩, 9) := ⟨⟨by decide +kernel, by decide +kernel⟩, List.mem_of_getElem? (i := 166) (by decide +kernel), List.mem_of_getElem? (i := 562) (by decide +kernel), List.mem_of_getElem? (i := 563) (by decide +kernel)⟩
theorem lw_p20 : lw_okq (⟨"QuiltPatches$Finder", "meetingEarlier", "(LQuiltPatches$Told;I)I"⟩, 9) := ⟨⟨by decide +kernel, by decide +kernel⟩, List.mem_of_getElem? (i := 166) (by decide +kernel), List.mem_of_getElem? (i := 567) (by decide +kernel), List.mem_of_getElem? (i := 568) (by decide +kernel)⟩
theorem lw_p21 : lw_okq (⟨"QuiltPatches$Finder", "tryBlock", "(LQuiltPatches$Told;II)V"⟩, 9) := ⟨⟨by decide +kernel, by decide +kernel⟩, List.mem_of_getElem? (i := 166) (by decide +kernel), List.mem_of_getElem? (i := 574) (by decide +kernel), List.mem_of_getElem? (i := 575) (by decide +kernel)⟩
theorem lw_p22 : lw_okq (⟨"QuiltPatches", "sameWithAnotherAt", "(II)I"⟩, 16) := ⟨⟨by decide +kernel, by decide +kernel⟩, List.mem_of_getElem? (i := 14) (by decide +kernel), List.mem_of_getElem? (i := 587) (by decide +kernel), List.mem_of_getElem? (i := 588) (by decide +kernel)⟩
theorem lw_p23 : lw_okq (⟨"QuiltPatches$Cloth", "workOut", "(II)V"⟩, 6) := ⟨⟨by decide +kernel, by decide +kernel⟩, List.mem_of_getElem? (i := 201) (by decide +kernel), List.mem_of_getElem? (i := 617) (by decide +kernel), List.mem_of_getElem? (i := 618) (by decide +kernel)⟩
theorem lw_p24 : lw_okq (⟨"QuiltPatches$Cloth", "pieceLike", "(II)I"⟩, 6) := ⟨⟨by decide +kernel, by decide +kernel⟩, List.mem_of_getElem? (i := 201) (by decide +kernel), List.mem_of_getElem? (i := 624) (by decide +kernel), List.mem_of_getElem? (i := 625) (by decide +kernel)⟩
theorem lw_p25 : lw_okq (⟨"QuiltPatches$Cloth", "tryCut", "(IIII)V"⟩, 6) := ⟨⟨by decide +kernel, by decide +kernel⟩, List.mem_of_getElem? (i := 201) (by decide +kernel), List.mem_of_getElem? (i := 630) (by decide +kernel), List.mem_of_getElem? (i := 631) (by decide +kernel)⟩
theorem lw_p26 : lw_okq (⟨"QuiltPatchesModel", "begins", "()V"⟩, 30) := ⟨⟨by decide +kernel, by decide +kernel⟩, List.mem_of_getElem? (i := 662) (by decide +kernel), List.mem_of_getElem? (i := 668) (by decide +kernel), List.mem_of_getElem? (i := 669) (by decide +kernel)⟩
theorem lw_p27 : lw_okq (⟨"QuiltPatchesModel", "becomes", "()V"⟩, 30) := ⟨⟨by decide +kernel, by decide +kernel⟩, List.mem_of_getElem? (i := 662) (by decide +kernel), List.mem_of_getElem? (i := 672) (by decide +kernel), List.mem_of_getElem? (i := 673) (by decide +kernel)⟩
theorem lw_p28 : lw_okq (⟨"QuiltPatchesModel", "here", "()I"⟩, 30) := ⟨⟨by decide +kernel, by decide +kernel⟩, List.mem_of_getElem? (i := 662) (by decide +kernel), List.mem_of_getElem? (i := 782) (by decide +kernel), List.mem_of_getElem? (i := 783) (by decide +kernel)⟩
theorem lw_p29 : lw_okq (⟨"QuiltPatchesModel", "item", "()Z"⟩, 30) := ⟨⟨by decide +kernel, by decide +kernel⟩, List.mem_of_getElem? (i := 662) (by decide +kernel), List.mem_of_getElem? (i := 786) (by decide +kernel), List.mem_of_getElem? (i := 787) (by decide +kernel)⟩
theorem lw_p30 : lw_okq (⟨"QuiltPatchesModel", "readsKind", "()Z"⟩, 30) := ⟨⟨by decide +kernel, by decide +kernel⟩, List.mem_of_getElem? (i := 662) (by decide +kernel), List.mem_of_getElem? (i := 790) (by decide +kernel), List.mem_of_getElem? (i := 791) (by decide +kernel)⟩
theorem lw_p31 : lw_okq (⟨"QuiltPatchesModel", "reads", "(II)Z"⟩, 30) := ⟨⟨by decide +kernel, by decide +kernel⟩, List.mem_of_getElem? (i := 662) (by decide +kernel), List.mem_of_getElem? (i := 794) (by decide +kernel), List.mem_of_getElem? (i := 795) (by decide +kernel)⟩
def lw_privs_2 : List (MethodName × Nat) := [(⟨"QuiltPatches$Winnow", "supported", "(LQuiltPatches$Told;LQuiltPatches$Layout;I)I"⟩, 1), (⟨"QuiltPatches", "quiltsOf", "(LQuiltPatches$Layout;I)I"⟩, 16), (⟨"QuiltPatches$Finder", "roomInAll", "(LQuiltPatches$Told;)I"⟩, 9), (⟨"QuiltPatches$Finder", "giveFrom", "(LQuiltPatches$Told;I)V"⟩, 9), (⟨"QuiltPatches$Finder", "meetingEarlier", "(LQuiltPatches$Told;I)I"⟩, 9), (⟨"QuiltPatches$Finder", "tryBlock", "(LQuiltPatches$Told;II)V"⟩, 9), (⟨"QuiltPatches", "sameWithAnotherAt", "(II)I"⟩, 16), (⟨"QuiltPatches$Cloth", "workOut", "(II)V"⟩, 6), (⟨"QuiltPatches$Cloth", "pieceLike", "(II)I"⟩, 6), (⟨"QuiltPatches$Cloth", "tryCut", "(IIII)V"⟩, 6), (⟨"QuiltPatchesModel", "begins", "()V"⟩, 30), (⟨"QuiltPatchesModel", "becomes", "()V"⟩, 30), (⟨"QuiltPatchesModel", "here", "()I"⟩, 30), (⟨"QuiltPatchesModel", "item", "()Z"⟩, 30), (⟨"QuiltPatchesModel", "readsKind", "()Z"⟩, 30), (⟨"QuiltPatchesModel", "reads", "(II)Z"⟩, 30)]
theorem lw_r2 : ∀ q ∈ lw_privs_2, lw_okq q := List.forall_mem_cons.mpr ⟨lw_p16, List.forall_mem_cons.mpr ⟨lw_p17, List.forall_mem_cons.mpr ⟨lw_p18, List.forall_mem_cons.mpr ⟨lw_p19, List.forall_mem_cons.mpr ⟨lw_p20, List.forall_mem_cons.mpr ⟨lw_p21, List.forall_mem_cons.mpr ⟨lw_p22, List.forall_mem_cons.mpr ⟨lw_p23, List.forall_mem_cons.mpr ⟨lw_p24, List.forall_mem_cons.mpr ⟨lw_p25, List.forall_mem_cons.mpr ⟨lw_p26, List.forall_mem_cons.mpr ⟨lw_p27, List.forall_mem_cons.mpr ⟨lw_p28, List.forall_mem_cons.mpr ⟨lw_p29, List.forall_mem_cons.mpr ⟨lw_p30, List.forall_mem_cons.mpr ⟨lw_p31, fun _ h => absurd h List.not_mem_nil⟩⟩⟩⟩⟩⟩⟩⟩⟩⟩⟩⟩⟩⟩⟩⟩
theorem lw_p32 : lw_okq (⟨"QuiltPatchesModel", "readsOnce", "(IIIII)Z"⟩, 30) := ⟨⟨by decide +kernel, by decide +kernel⟩, List.mem_of_getElem? (i := 662) (by decide +kernel), List.mem_of_getElem? (i := 798) (by decide +kernel), List.mem_of_getElem? (i := 799) (by decide +kernel)⟩
theorem lw_p33 : lw_okq (⟨"QuiltPatchesModel", "isKind", "(I)Z"⟩, 30) := ⟨⟨by decide +kernel, by decide +kernel⟩, List.mem_of_getElem? (i := 662) (by decide +kernel), List.mem_of_getElem? (i := 806) (by decide +kernel), List.mem_of_getElem? (i := 807) (by decide +kernel)⟩
theorem lw_p34 : lw_okq (⟨"QuiltPatchesModel", "tries", "()V"⟩, 30) := ⟨⟨by decide +kernel, by decide +kernel⟩, List.mem_of_getElem? (i := 662) (by decide +kernel), List.mem_of_getElem? (i := 810) (by decide +kernel), List.mem_of_getElem? (i := 811) (by decide +kernel)⟩
theorem lw_p35 : lw_okq (⟨"QuiltPatchesModel", "leftOf", "(I)I"⟩, 30) := ⟨⟨by decide +kernel, by decide +kernel⟩, List.mem_of_getElem? (i := 662) (by decide +kernel), List.mem_of_getElem? (i := 814) (by decide +kernel), List.mem_of_getElem? (i := 815) (by decide +kernel)⟩
theorem lw_p36 : lw_okq (⟨"QuiltPatchesModel", "isBlock", "(I)Z"⟩, 30) := ⟨⟨by decide +kernel, by decide +kernel⟩, List.mem_of_getElem? (i := 662) (by decide +kernel), List.mem_of_getElem? (i := 822) (by decide +kernel), List.mem_of_getElem? (i := 823) (by decide +kernel)⟩
theorem lw_p37 : lw_okq (⟨"QuiltPatchesModel", "edge", "(II)I"⟩, 30) := ⟨⟨by decide +kernel, by decide +kernel⟩, List.mem_of_getElem? (i := 662) (by decide +kernel), List.mem_of_getElem? (i := 826) (by decide +kernel), List.mem_of_getElem? (i := 827) (by decide +kernel)⟩
theorem lw_p38 : lw_okq (⟨"QuiltPatchesModel", "isPlain", "(I)Z"⟩, 30) := ⟨⟨by decide +kernel, by decide +kernel⟩, List.mem_of_getElem? (i := 662) (by decide +kernel), List.mem_of_getElem? (i := 830) (by decide +kernel), List.mem_of_getElem? (i := 831) (by decide +kernel)⟩
theorem lw_p39 : lw_okq (⟨"QuiltPatchesModel", "isSquare", "(I)Z"⟩, 30) := ⟨⟨by decide +kernel, by decide +kernel⟩, List.mem_of_getElem? (i := 662) (by decide +kernel), List.mem_of_getElem? (i := 838) (by decide +kernel), List.mem_of_getElem? (i := 839) (by decide +kernel)⟩
theorem lw_p40 : lw_okq (⟨"QuiltPatchesModel", "squares", "()I"⟩, 30) := ⟨⟨by decide +kernel, by decide +kernel⟩, List.mem_of_getElem? (i := 662) (by decide +kernel), List.mem_of_getElem? (i := 842) (by decide +kernel), List.mem_of_getElem? (i := 843) (by decide +kernel)⟩
theorem lw_p41 : lw_okq (⟨"QuiltPatchesModel", "whyNot", "(II)I"⟩, 30) := ⟨⟨by decide +kernel, by decide +kernel⟩, List.mem_of_getElem? (i := 662) (by decide +kernel), List.mem_of_getElem? (i := 846) (by decide +kernel), List.mem_of_getElem? (i := 847) (by decide +kernel)⟩
theorem lw_p42 : lw_okq (⟨"QuiltPatchesModel", "beside", "(II)I"⟩, 30) := ⟨⟨by decide +kernel, by decide +kernel⟩, List.mem_of_getElem? (i := 662) (by decide +kernel), List.mem_of_getElem? (i := 850) (by decide +kernel), List.mem_of_getElem? (i := 851) (by decide +kernel)⟩
theorem lw_p43 : lw_okq (⟨"QuiltPatchesModel", "hueOf", "(I)I"⟩, 30) := ⟨⟨by decide +kernel, by decide +kernel⟩, List.mem_of_getElem? (i := 662) (by decide +kernel), List.mem_of_getElem? (i := 854) (by decide +kernel), List.mem_of_getElem? (i := 855) (by decide +kernel)⟩
theorem lw_p44 : lw_okq (⟨"QuiltPatchesModel", "ofHue", "(I)I"⟩, 30) := ⟨⟨by decide +kernel, by decide +kernel⟩, List.mem_of_getElem? (i := 662) (by decide +kernel), List.mem_of_getElem? (i := 858) (by decide +kernel), List.mem_of_getElem? (i := 859) (by decide +kernel)⟩
theorem lw_p45 : lw_okq (⟨"QuiltPatchesModel", "notes", "()V"⟩, 30) := ⟨⟨by decide +kernel, by decide +kernel⟩, List.mem_of_getElem? (i := 662) (by decide +kernel), List.mem_of_getElem? (i := 862) (by decide +kernel), List.mem_of_getElem? (i := 863) (by decide +kernel)⟩
theorem lw_p46 : lw_okq (⟨"QuiltPatchesModel", "open", "()I"⟩, 30) := ⟨⟨by decide +kernel, by decide +kernel⟩, List.mem_of_getElem? (i := 662) (by decide +kernel), List.mem_of_getElem? (i := 866) (by decide +kernel), List.mem_of_getElem? (i := 867) (by decide +kernel)⟩
theorem lw_p47 : lw_okq (⟨"QuiltPatchesModel", "winnows", "()V"⟩, 30) := ⟨⟨by decide +kernel, by decide +kernel⟩, List.mem_of_getElem? (i := 662) (by decide +kernel), List.mem_of_getElem? (i := 898) (by decide +kernel), List.mem_of_getElem? (i := 899) (by decide +kernel)⟩
def lw_privs_3 : List (MethodName × Nat) := [(⟨"QuiltPatchesModel", "readsOnce", "(IIIII)Z"⟩, 30), (⟨"QuiltPatchesModel", "isKind", "(I)Z"⟩, 30), (⟨"QuiltPatchesModel", "tries", "()V"⟩, 30), (⟨"QuiltPatchesModel", "leftOf", "(I)I"⟩, 30), (⟨"QuiltPatchesModel", "isBlock", "(I)Z"⟩, 30), (⟨"QuiltPatchesModel", "edge", "(II)I"⟩, 30), (⟨"QuiltPatchesModel", "isPlain", "(I)Z"⟩, 30), (⟨"QuiltPatchesModel", "isSquare", "(I)Z"⟩, 30), (⟨"QuiltPatchesModel", "squares", "()I"⟩, 30), (⟨"QuiltPatchesModel", "whyNot", "(II)I"⟩, 30), (⟨"QuiltPatchesModel", "beside", "(II)I"⟩, 30), (⟨"QuiltPatchesModel", "hueOf", "(I)I"⟩, 30), (⟨"QuiltPatchesModel", "ofHue", "(I)I"⟩, 30), (⟨"QuiltPatchesModel", "notes", "()V"⟩, 30), (⟨"QuiltPatchesModel", "open", "()I"⟩, 30), (⟨"QuiltPatchesModel", "winnows", "()V"⟩, 30)]
theorem lw_r3 : ∀ q ∈ lw_privs_3, lw_okq q := List.forall_mem_cons.mpr ⟨lw_p32, List.forall_mem_cons.mpr ⟨lw_p33, List.forall_mem_cons.mpr ⟨lw_p34, List.forall_mem_cons.mpr ⟨lw_p35, List.forall_mem_cons.mpr ⟨lw_p36, List.forall_mem_cons.mpr ⟨lw_p37, List.forall_mem_cons.mpr ⟨lw_p38, List.forall_mem_cons.mpr ⟨lw_p39, List.forall_mem_cons.mpr ⟨lw_p40, List.forall_mem_cons.mpr ⟨lw_p41, List.forall_mem_cons.mpr ⟨lw_p42, List.forall_mem_cons.mpr ⟨lw_p43, List.forall_mem_cons.mpr ⟨lw_p44, List.forall_mem_cons.mpr ⟨lw_p45, List.forall_mem_cons.mpr ⟨lw_p46, List.forall_mem_cons.mpr ⟨lw_p47, fun _ h => absurd h List.not_mem_nil⟩⟩⟩⟩⟩⟩⟩⟩⟩⟩⟩⟩⟩⟩⟩⟩
theorem lw_p48 : lw_okq (⟨"QuiltPatchesModel", "stays", "(II)Z"⟩, 30) := ⟨⟨by decide +kernel, by decide +kernel⟩, List.mem_of_getElem? (i := 662) (by decide +kernel), List.mem_of_getElem? (i := 902) (by decide +kernel), List.mem_of_getElem? (i := 903) (by decide +kernel)⟩
theorem lw_p49 : lw_okq (⟨"QuiltPatchesModel", "has", "(III)Z"⟩, 30) := ⟨⟨by decide +kernel, by decide +kernel⟩, List.mem_of_getElem? (i := 662) (by decide +kernel), List.mem_of_getElem? (i := 906) (by decide +kernel), List.mem_of_getElem? (i := 907) (by decide +kernel)⟩
theorem lw_p50 : lw_okq (⟨"QuiltPatchesModel", "hueAt", "(I)I"⟩, 30) := ⟨⟨by decide +kernel, by decide +kernel⟩, List.mem_of_getElem? (i := 662) (by decide +kernel), List.mem_of_getElem? (i := 917) (by decide +kernel), List.mem_of_getElem? (i := 918) (by decide +kernel)⟩
theorem lw_p51 : lw_okq (⟨"QuiltPatchesModel", "startsQuilts", "()V"⟩, 30) := ⟨⟨by decide +kernel, by decide +kernel⟩, List.mem_of_getElem? (i := 662) (by decide +kernel), List.mem_of_getElem? (i := 925) (by decide +kernel), List.mem_of_getElem? (i := 926) (by decide +kernel)⟩
theorem lw_p52 : lw_okq (⟨"QuiltPatchesModel", "nextQuilt", "()Z"⟩, 30) := ⟨⟨by decide +kernel, by decide +kernel⟩, List.mem_of_getElem? (i := 662) (by decide +kernel), List.mem_of_getElem? (i := 929) (by decide +kernel), List.mem_of_getElem? (i := 930) (by decide +kernel)⟩
theorem lw_p53 : lw_okq (⟨"QuiltPatchesModel", "canBe", "(II)Z"⟩, 30) := ⟨⟨by decide +kernel, by decide +kernel⟩, List.mem_of_getElem? (i := 662) (by decide +kernel), List.mem_of_getElem? (i := 933) (by decide +kernel), List.mem_of_getElem? (i := 934) (by decide +kernel)⟩
theorem lw_p54 : lw_okq (⟨"QuiltPatchesModel", "side", "(IZ)I"⟩, 30) := ⟨⟨by decide +kernel, by decide +kernel⟩, List.mem_of_getElem? (i := 662) (by decide +kernel), List.mem_of_getElem? (i := 957) (by decide +kernel), List.mem_of_getElem? (i := 958) (by decide +kernel)⟩
theorem lw_p55 : lw_okq (⟨"QuiltPatchesModel", "laysCloth", "()V"⟩, 30) := ⟨⟨by decide +kernel, by decide +kernel⟩, List.mem_of_getElem? (i := 662) (by decide +kernel), List.mem_of_getElem? (i := 968) (by decide +kernel), List.mem_of_getElem? (i := 969) (by decide +kernel)⟩
theorem lw_p56 : lw_okq (⟨"QuiltPatchesModel", "laysRectangle", "(II)V"⟩, 30) := ⟨⟨by decide +kernel, by decide +kernel⟩, List.mem_of_getElem? (i := 662) (by decide +kernel), List.mem_of_getElem? (i := 972) (by decide +kernel), List.mem_of_getElem? (i := 973) (by decide +kernel)⟩
theorem lw_p57 : lw_okq (⟨"QuiltPatchesModel", "pieceOf", "(II)I"⟩, 30) := ⟨⟨by decide +kernel, by decide +kernel⟩, List.mem_of_getElem? (i := 662) (by decide +kernel), List.mem_of_getElem? (i := 976) (by decide +kernel), List.mem_of_getElem? (i := 977) (by decide +kernel)⟩
theorem lw_p58 : lw_okq (⟨"QuiltPatchesModel", "laysCut", "(IIII)V"⟩, 30) := ⟨⟨by decide +kernel, by decide +kernel⟩, List.mem_of_getElem? (i := 662) (by decide +kernel), List.mem_of_getElem? (i := 980) (by decide +kernel), List.mem_of_getElem? (i := 981) (by decide +kernel)⟩
theorem lw_p59 : lw_okq (⟨"QuiltPatchesModel", "hues", "()I"⟩, 30) := ⟨⟨by decide +kernel, by decide +kernel⟩, List.mem_of_getElem? (i := 662) (by decide +kernel), List.mem_of_getElem? (i := 1004) (by decide +kernel), List.mem_of_getElem? (i := 1005) (by decide +kernel)⟩
def lw_privs_4 : List (MethodName × Nat) := [(⟨"QuiltPatchesModel", "stays", "(II)Z"⟩, 30), (⟨"QuiltPatchesModel", "has", "(III)Z"⟩, 30), (⟨"QuiltPatchesModel", "hueAt", "(I)I"⟩, 30), (⟨"QuiltPatchesModel", "startsQuilts", "()V"⟩, 30), (⟨"QuiltPatchesModel", "nextQuilt", "()Z"⟩, 30), (⟨"QuiltPatchesModel", "canBe", "(II)Z"⟩, 30), (⟨"QuiltPatchesModel", "side", "(IZ)I"⟩, 30), (⟨"QuiltPatchesModel", "laysCloth", "()V"⟩, 30), (⟨"QuiltPatchesModel", "laysRectangle", "(II)V"⟩, 30), (⟨"QuiltPatchesModel", "pieceOf", "(II)I"⟩, 30), (⟨"QuiltPatchesModel", "laysCut", "(IIII)V"⟩, 30), (⟨"QuiltPatchesModel", "hues", "()I"⟩, 30)]
theorem lw_r4 : ∀ q ∈ lw_privs_4, lw_okq q := List.forall_mem_cons.mpr ⟨lw_p48, List.forall_mem_cons.mpr ⟨lw_p49, List.forall_mem_cons.mpr ⟨lw_p50, List.forall_mem_cons.mpr ⟨lw_p51, List.forall_mem_cons.mpr ⟨lw_p52, List.forall_mem_cons.mpr ⟨lw_p53, List.forall_mem_cons.mpr ⟨lw_p54, List.forall_mem_cons.mpr ⟨lw_p55, List.forall_mem_cons.mpr ⟨lw_p56, List.forall_mem_cons.mpr ⟨lw_p57, List.forall_mem_cons.mpr ⟨lw_p58, List.forall_mem_cons.mpr ⟨lw_p59, fun _ h => absurd h List.not_mem_nil⟩⟩⟩⟩⟩⟩⟩⟩⟩⟩⟩⟩
def lw_privs : List (MethodName × Nat) := lw_privs_1 ++ (lw_privs_2 ++ (lw_privs_3 ++ (lw_privs_4)))
def lw_tbl : List Cond := k2_sels lw_privs ++ tables_1
theorem lw_privs_ok : ∀ q ∈ lw_privs, lw_okq q := by
  show ∀ q ∈ lw_privs_1 ++ (lw_privs_2 ++ (lw_privs_3 ++ (lw_privs_4))), lw_okq q
  exact List.forall_mem_append.mpr ⟨lw_r1, List.forall_mem_append.mpr ⟨lw_r2, List.forall_mem_append.mpr ⟨lw_r3, lw_r4⟩⟩⟩
def RX0 : String := "QuiltPatches$Cloth"
def TX0 : u_T := fun k => match k with
  | 0 => ("QuiltPatches$Cloth", "lesser", "[I", true)
  | 1 => ("QuiltPatches$Cloth", "greater", "[I", true)
  | 2 => ("QuiltPatches$Cloth", "used", "[I", true)
  | 3 => ("QuiltPatches$Cloth", "cuts", "[I", true)
  | 4 => ("QuiltPatches$Cloth", "gives", "[I", true)
  | _ => ("QuiltPatches$Cloth", "known", "Z", false)
def tyX0 : Nat → FieldType := fun k => match k with
  | 0 => .array .int
  | 1 => .array .int
  | 2 => .array .int
  | 3 => .array .int
  | 4 => .array .int
  | _ => .boolean
abbrev wsX00 : List Cond := u_ws RX0 TX0 6
theorem nmX0 : ∀ a, a < 6 → ∀ b, b < 6 → a ≠ b → (TX0 a).2.1 ≠ (TX0 b).2.1 := by decide +kernel
theorem tyX0_ok : ∀ k, k < 6 → parseFieldDescriptor (TX0 k).2.2.1 = some (tyX0 k) := by decide +kernel
abbrev cX0_init : ByteArray := prog_2_method_1_code
def yX0_init : MethodName := ⟨RX0, "<init>", "()V"⟩
abbrev cX0_at : ByteArray := prog_2_method_2_code
def yX0_at : MethodName := ⟨RX0, "at", "(II)I"⟩
abbrev cX0_measure : ByteArray := prog_2_method_3_code
def yX0_measure : MethodName := ⟨RX0, "measure", "(LQuiltPatches$Told;)V"⟩
abbrev cX0_know : ByteArray := prog_2_method_4_code
def yX0_know : MethodName := ⟨RX0, "know", "()V"⟩
abbrev cX0_workOut : ByteArray := prog_2_method_5_code
def yX0_workOut : MethodName := ⟨RX0, "workOut", "(II)V"⟩
abbrev cX0_tryCut : ByteArray := prog_2_method_6_code
def yX0_tryCut : MethodName := ⟨RX0, "tryCut", "(IIII)V"⟩
abbrev cX0_pieceLike : ByteArray := prog_2_method_7_code
def yX0_pieceLike : MethodName := ⟨RX0, "pieceLike", "(II)I"⟩
def RX1 : String := "QuiltPatches$Finder"
def TX1 : u_T := fun k => match k with
  | 0 => ("QuiltPatches$Finder", "latest", "[I", true)
  | 1 => ("QuiltPatches$Finder", "trial", "[I", true)
  | 2 => ("QuiltPatches$Finder", "given", "[Z", true)
  | 3 => ("QuiltPatches$Finder", "choice", "[I", true)
  | 4 => ("QuiltPatches$Finder", "kindRoom", "[I", true)
  | 5 => ("QuiltPatches$Finder", "hueRoom", "[I", true)
  | 6 => ("QuiltPatches$Finder", "squares", "I", false)
  | 7 => ("QuiltPatches$Finder", "found", "I", false)
  | _ => ("QuiltPatches$Finder", "limit", "I", false)
def tyX1 : Nat → FieldType := fun k => match k with
  | 0 => .array .int
  | 1 => .array .int
  | 2 => .array .boolean
  | 3 => .array .int
  | 4 => .array .int
  | 5 => .array .int
  | 6 => .int
  | 7 => .int
  | _ => .int
abbrev wsX10 : List Cond := u_ws RX1 TX1 9
theorem nmX1 : ∀ a, a < 9 → ∀ b, b < 9 → a ≠ b → (TX1 a).2.1 ≠ (TX1 b).2.1 := by decide +kernel
theorem tyX1_ok : ∀ k, k < 9 → parseFieldDescriptor (TX1 k).2.2.1 = some (tyX1 k) := by decide +kernel
abbrev cX1_init : ByteArray := prog_3_method_1_code
def yX1_init : MethodName := ⟨RX1, "<init>", "()V"⟩
abbrev cX1_find : ByteArray := prog_3_method_2_code
def yX1_find : MethodName := ⟨RX1, "find", "(LQuiltPatches$Told;LQuiltPatches$Layout;[II)I"⟩
abbrev cX1_giveFrom : ByteArray := prog_3_method_3_code
def yX1_giveFrom : MethodName := ⟨RX1, "giveFrom", "(LQuiltPatches$Told;I)V"⟩
abbrev cX1_tryBlock : ByteArray := prog_3_method_4_code
def yX1_tryBlock : MethodName := ⟨RX1, "tryBlock", "(LQuiltPatches$Told;II)V"⟩
abbrev cX1_roomInAll : ByteArray := prog_3_method_5_code
def yX1_roomInAll : MethodName := ⟨RX1, "roomInAll", "(LQuiltPatches$Told;)I"⟩
abbrev cX1_meetingEarlier : ByteArray := prog_3_method_6_code
def yX1_meetingEarlier : MethodName := ⟨RX1, "meetingEarlier", "(LQuiltPatches$Told;I)I"⟩
def RX2 : String := "QuiltPatches$Layout"
def TX2 : u_T := fun k => match k with
  | 0 => ("QuiltPatches$Layout", "blocks", "[I", true)
  | _ => ("QuiltPatches$Layout", "stocks", "[I", true)
def tyX2 : Nat → FieldType := fun k => match k with
  | 0 => .array .int
  | _ => .array .int
abbrev wsX20 : List Cond := u_ws RX2 TX2 2
theorem nmX2 : ∀ a, a < 2 → ∀ b, b < 2 → a ≠ b → (TX2 a).2.1 ≠ (TX2 b).2.1 := by decide +kernel
theorem tyX2_ok : ∀ k, k < 2 → parseFieldDescriptor (TX2 k).2.2.1 = some (tyX2 k) := by decide +kernel
abbrev cX2_init : ByteArray := prog_4_method_1_code
def yX2_init : MethodName := ⟨RX2, "<init>", "()V"⟩
abbrev cX2_begin : ByteArray := prog_4_method_2_code
def yX2_begin : MethodName := ⟨RX2, "begin", "(LQuiltPatches$Told;)V"⟩
abbrev cX2_become : ByteArray := prog_4_method_3_code
def yX2_become : MethodName := ⟨RX2, "become", "(LQuiltPatches$Layout;)V"⟩
abbrev cX2_openAll : ByteArray := prog_4_method_4_code
def yX2_openAll : MethodName := ⟨RX2, "openAll", "()V"⟩
abbrev cX2_isOpen : ByteArray := prog_4_method_5_code
def yX2_isOpen : MethodName := ⟨RX2, "isOpen", "(I)Z"⟩
abbrev cX2_leftOf : ByteArray := prog_4_method_6_code
def yX2_leftOf : MethodName := ⟨RX2, "leftOf", "(I)I"⟩
abbrev cX2_squaresOfHue : ByteArray := prog_4_method_7_code
def yX2_squaresOfHue : MethodName := ⟨RX2, "squaresOfHue", "(LQuiltPatches$Told;I)I"⟩
def RX3 : String := "QuiltPatches$Reader"
def TX3 : u_T := fun k => match k with
  | 0 => ("QuiltPatches$Reader", "place", "I", false)
  | 1 => ("QuiltPatches$Reader", "tokenPlace", "I", false)
  | 2 => ("QuiltPatches$Reader", "token", "I", false)
  | 3 => ("QuiltPatches$Reader", "number", "I", false)
  | 4 => ("QuiltPatches$Reader", "toldWidth", "Z", false)
  | 5 => ("QuiltPatches$Reader", "toldRim", "Z", false)
  | 6 => ("QuiltPatches$Reader", "toldMost", "Z", false)
  | _ => ("QuiltPatches$Reader", "toldSide", "Z", false)
def tyX3 : Nat → FieldType := fun k => match k with
  | 0 => .int
  | 1 => .int
  | 2 => .int
  | 3 => .int
  | 4 => .boolean
  | 5 => .boolean
  | 6 => .boolean
  | _ => .boolean
abbrev wsX30 : List Cond := u_ws RX3 TX3 8
theorem nmX3 : ∀ a, a < 8 → ∀ b, b < 8 → a ≠ b → (TX3 a).2.1 ≠ (TX3 b).2.1 := by decide +kernel
theorem tyX3_ok : ∀ k, k < 8 → parseFieldDescriptor (TX3 k).2.2.1 = some (tyX3 k) := by decide +kernel
abbrev cX3_init : ByteArray := prog_5_method_1_code
def yX3_init : MethodName := ⟨RX3, "<init>", "()V"⟩
abbrev cX3_readInto : ByteArray := prog_5_method_2_code
def yX3_readInto : MethodName := ⟨RX3, "readInto", "(LQuiltPatches$Told;[II)I"⟩
abbrev cX3_startAnew : ByteArray := prog_5_method_3_code
def yX3_startAnew : MethodName := ⟨RX3, "startAnew", "(LQuiltPatches$Told;)V"⟩
abbrev cX3_readItem : ByteArray := prog_5_method_4_code
def yX3_readItem : MethodName := ⟨RX3, "readItem", "(LQuiltPatches$Told;[II)Z"⟩
abbrev cX3_mayStart : ByteArray := prog_5_method_5_code
def yX3_mayStart : MethodName := ⟨RX3, "mayStart", "(LQuiltPatches$Told;I)Z"⟩
abbrev cX3_numbersOf : ByteArray := prog_5_method_6_code
def yX3_numbersOf : MethodName := ⟨RX3, "numbersOf", "(I)I"⟩
abbrev cX3_lowestOf : ByteArray := prog_5_method_7_code
def yX3_lowestOf : MethodName := ⟨RX3, "lowestOf", "(I)I"⟩
abbrev cX3_highestOf : ByteArray := prog_5_method_8_code
def yX3_highestOf : MethodName := ⟨RX3, "highestOf", "(II)I"⟩
abbrev cX3_put : ByteArray := prog_5_method_9_code
def yX3_put : MethodName := ⟨RX3, "put", "(LQuiltPatches$Told;III)V"⟩
abbrev cX3_putKind : ByteArray := prog_5_method_10_code
def yX3_putKind : MethodName := ⟨RX3, "putKind", "(LQuiltPatches$Told;II)V"⟩
abbrev cX3_readToken : ByteArray := prog_5_method_11_code
def yX3_readToken : MethodName := ⟨RX3, "readToken", "([II)V"⟩
abbrev cX3_readNumber : ByteArray := prog_5_method_12_code
def yX3_readNumber : MethodName := ⟨RX3, "readNumber", "([II)V"⟩
abbrev cX3_isFigure : ByteArray := prog_5_method_13_code
def yX3_isFigure : MethodName := ⟨RX3, "isFigure", "(I)Z"⟩
abbrev cX3_isSign : ByteArray := prog_5_method_14_code
def yX3_isSign : MethodName := ⟨RX3, "isSign", "(I)Z"⟩
def RX4 : String := "QuiltPatches$Told"
def TX4 : u_T := fun k => match k with
  | 0 => ("QuiltPatches$Told", "kinds", "I", false)
  | 1 => ("QuiltPatches$Told", "width", "I", false)
  | 2 => ("QuiltPatches$Told", "height", "I", false)
  | 3 => ("QuiltPatches$Told", "rim", "I", false)
  | 4 => ("QuiltPatches$Told", "most", "I", false)
  | 5 => ("QuiltPatches$Told", "side", "I", false)
  | 6 => ("QuiltPatches$Told", "border", "I", false)
  | 7 => ("QuiltPatches$Told", "edges", "[I", true)
  | 8 => ("QuiltPatches$Told", "hues", "[I", true)
  | 9 => ("QuiltPatches$Told", "stocks", "[I", true)
  | _ => ("QuiltPatches$Told", "having", "[I", true)
def tyX4 : Nat → FieldType := fun k => match k with
  | 0 => .int
  | 1 => .int
  | 2 => .int
  | 3 => .int
  | 4 => .int
  | 5 => .int
  | 6 => .int
  | 7 => .array .int
  | 8 => .array .int
  | 9 => .array .int
  | _ => .array .int
abbrev wsX40 : List Cond := u_ws RX4 TX4 11
theorem nmX4 : ∀ a, a < 11 → ∀ b, b < 11 → a ≠ b → (TX4 a).2.1 ≠ (TX4 b).2.1 := by decide +kernel
theorem tyX4_ok : ∀ k, k < 11 → parseFieldDescriptor (TX4 k).2.2.1 = some (tyX4 k) := by decide +kernel
abbrev cX4_init : ByteArray := prog_6_method_1_code
def yX4_init : MethodName := ⟨RX4, "<init>", "()V"⟩
abbrev cX4_startAnew : ByteArray := prog_6_method_2_code
def yX4_startAnew : MethodName := ⟨RX4, "startAnew", "()V"⟩
abbrev cX4_squares : ByteArray := prog_6_method_3_code
def yX4_squares : MethodName := ⟨RX4, "squares", "()I"⟩
abbrev cX4_edgeOf : ByteArray := prog_6_method_4_code
def yX4_edgeOf : MethodName := ⟨RX4, "edgeOf", "(II)I"⟩
abbrev cX4_isPlain : ByteArray := prog_6_method_5_code
def yX4_isPlain : MethodName := ⟨RX4, "isPlain", "(I)Z"⟩
abbrev cX4_looksLike : ByteArray := prog_6_method_6_code
def yX4_looksLike : MethodName := ⟨RX4, "looksLike", "(II)Z"⟩
abbrev cX4_settleBlocks : ByteArray := prog_6_method_7_code
def yX4_settleBlocks : MethodName := ⟨RX4, "settleBlocks", "()V"⟩
abbrev cX4_plainWith : ByteArray := prog_6_method_8_code
def yX4_plainWith : MethodName := ⟨RX4, "plainWith", "(II)I"⟩
abbrev cX4_beside : ByteArray := prog_6_method_9_code
def yX4_beside : MethodName := ⟨RX4, "beside", "(II)I"⟩
abbrev cX4_isFirstOfHue : ByteArray := prog_6_method_10_code
def yX4_isFirstOfHue : MethodName := ⟨RX4, "isFirstOfHue", "(I)Z"⟩
abbrev cX4_hueCount : ByteArray := prog_6_method_11_code
def yX4_hueCount : MethodName := ⟨RX4, "hueCount", "()I"⟩
abbrev cX4_hueAt : ByteArray := prog_6_method_12_code
def yX4_hueAt : MethodName := ⟨RX4, "hueAt", "(I)I"⟩
abbrev cX4_kindsOfHue : ByteArray := prog_6_method_13_code
def yX4_kindsOfHue : MethodName := ⟨RX4, "kindsOfHue", "(I)I"⟩
def RX5 : String := "QuiltPatches$Winnow"
def TX5 : u_T := fun k => match k with
  | _ => ("QuiltPatches$Winnow", "sets", "[I", true)
def tyX5 : Nat → FieldType := fun k => match k with
  | _ => .array .int
abbrev wsX50 : List Cond := u_ws RX5 TX5 1
theorem nmX5 : ∀ a, a < 1 → ∀ b, b < 1 → a ≠ b → (TX5 a).2.1 ≠ (TX5 b).2.1 := by decide +kernel
theorem tyX5_ok : ∀ k, k < 1 → parseFieldDescriptor (TX5 k).2.2.1 = some (tyX5 k) := by decide +kernel
abbrev cX5_init : ByteArray := prog_7_method_1_code
def yX5_init : MethodName := ⟨RX5, "<init>", "()V"⟩
abbrev cX5_begin : ByteArray := prog_7_method_2_code
def yX5_begin : MethodName := ⟨RX5, "begin", "(LQuiltPatches$Told;LQuiltPatches$Layout;)V"⟩
abbrev cX5_settle : ByteArray := prog_7_method_3_code
def yX5_settle : MethodName := ⟨RX5, "settle", "(LQuiltPatches$Told;LQuiltPatches$Layout;)V"⟩
abbrev cX5_blocksToHave : ByteArray := prog_7_method_4_code
def yX5_blocksToHave : MethodName := ⟨RX5, "blocksToHave", "(LQuiltPatches$Told;LQuiltPatches$Layout;)I"⟩
abbrev cX5_meetingAround : ByteArray := prog_7_method_5_code
def yX5_meetingAround : MethodName := ⟨RX5, "meetingAround", "(LQuiltPatches$Told;LQuiltPatches$Layout;I)I"⟩
abbrev cX5_supported : ByteArray := prog_7_method_6_code
def yX5_supported : MethodName := ⟨RX5, "supported", "(LQuiltPatches$Told;LQuiltPatches$Layout;I)I"⟩
abbrev cX5_meetingOneOf : ByteArray := prog_7_method_7_code
def yX5_meetingOneOf : MethodName := ⟨RX5, "meetingOneOf", "(LQuiltPatches$Told;II)I"⟩
def RX6 : String := "QuiltPatches"
def TX6 : u_T := fun k => match k with
  | 0 => ("QuiltPatches", "text", "[I", true)
  | 1 => ("QuiltPatches", "letters", "I", false)
  | 2 => ("QuiltPatches", "reader", "LQuiltPatches$Reader;", true)
  | 3 => ("QuiltPatches", "told", "LQuiltPatches$Told;", false)
  | 4 => ("QuiltPatches", "spare", "LQuiltPatches$Told;", false)
  | 5 => ("QuiltPatches", "now", "LQuiltPatches$Layout;", true)
  | 6 => ("QuiltPatches", "supposed", "LQuiltPatches$Layout;", true)
  | 7 => ("QuiltPatches", "past", "[LQuiltPatches$Layout;", true)
  | 8 => ("QuiltPatches", "pastEnd", "I", false)
  | 9 => ("QuiltPatches", "undoable", "I", false)
  | 10 => ("QuiltPatches", "images", "[LQuiltPatches$Layout;", true)
  | 11 => ("QuiltPatches", "kept", "[Z", true)
  | 12 => ("QuiltPatches", "winnow", "LQuiltPatches$Winnow;", true)
  | 13 => ("QuiltPatches", "finder", "LQuiltPatches$Finder;", true)
  | 14 => ("QuiltPatches", "cloth", "LQuiltPatches$Cloth;", true)
  | _ => ("QuiltPatches", "firstQuilt", "[I", true)
def tyX6 : Nat → FieldType := fun k => match k with
  | 0 => .array .int
  | 1 => .int
  | 2 => .object "QuiltPatches$Reader"
  | 3 => .object "QuiltPatches$Told"
  | 4 => .object "QuiltPatches$Told"
  | 5 => .object "QuiltPatches$Layout"
  | 6 => .object "QuiltPatches$Layout"
  | 7 => .array (.object "QuiltPatches$Layout")
  | 8 => .int
  | 9 => .int
  | 10 => .array (.object "QuiltPatches$Layout")
  | 11 => .array .boolean
  | 12 => .object "QuiltPatches$Winnow"
  | 13 => .object "QuiltPatches$Finder"
  | 14 => .object "QuiltPatches$Cloth"
  | _ => .array .int
abbrev wsX60 : List Cond := u_ws RX6 TX6 16
theorem nmX6 : ∀ a, a < 16 → ∀ b, b < 16 → a ≠ b → (TX6 a).2.1 ≠ (TX6 b).2.1 := by decide +kernel
theorem tyX6_ok : ∀ k, k < 16 → parseFieldDescriptor (TX6 k).2.2.1 = some (tyX6 k) := by decide +kernel
abbrev cX6_init : ByteArray := prog_1_method_1_code
def yX6_init : MethodName := ⟨RX6, "<init>", "()V"⟩
abbrev cX6_type : ByteArray := prog_1_method_2_code
def yX6_type : MethodName := ⟨RX6, "type", "(I)I"⟩
abbrev cX6_clear : ByteArray := prog_1_method_3_code
def yX6_clear : MethodName := ⟨RX6, "clear", "()I"⟩
abbrev cX6_tells : ByteArray := prog_1_method_4_code
def yX6_tells : MethodName := ⟨RX6, "tells", "()I"⟩
abbrev cX6_kind : ByteArray := prog_1_method_5_code
def yX6_kind : MethodName := ⟨RX6, "kind", "(II)I"⟩
abbrev cX6_block : ByteArray := prog_1_method_6_code
def yX6_block : MethodName := ⟨RX6, "block", "(II)I"⟩
abbrev cX6_lays : ByteArray := prog_1_method_7_code
def yX6_lays : MethodName := ⟨RX6, "lays", "(II)I"⟩
abbrev cX6_takes : ByteArray := prog_1_method_8_code
def yX6_takes : MethodName := ⟨RX6, "takes", "(I)I"⟩
abbrev cX6_buys : ByteArray := prog_1_method_9_code
def yX6_buys : MethodName := ⟨RX6, "buys", "(II)I"⟩
abbrev cX6_clears : ByteArray := prog_1_method_10_code
def yX6_clears : MethodName := ⟨RX6, "clears", "()I"⟩
abbrev cX6_undo : ByteArray := prog_1_method_11_code
def yX6_undo : MethodName := ⟨RX6, "undo", "()I"⟩
abbrev cX6_square : ByteArray := prog_1_method_12_code
def yX6_square : MethodName := ⟨RX6, "square", "(I)I"⟩
abbrev cX6_fits : ByteArray := prog_1_method_13_code
def yX6_fits : MethodName := ⟨RX6, "fits", "(II)I"⟩
abbrev cX6_left : ByteArray := prog_1_method_14_code
def yX6_left : MethodName := ⟨RX6, "left", "(II)I"⟩
abbrev cX6_hue : ByteArray := prog_1_method_15_code
def yX6_hue : MethodName := ⟨RX6, "hue", "(II)I"⟩
abbrev cX6_many : ByteArray := prog_1_method_16_code
def yX6_many : MethodName := ⟨RX6, "many", "(I)I"⟩
abbrev cX6_quilt : ByteArray := prog_1_method_17_code
def yX6_quilt : MethodName := ⟨RX6, "quilt", "(II)I"⟩
abbrev cX6_sure : ByteArray := prog_1_method_18_code
def yX6_sure : MethodName := ⟨RX6, "sure", "()I"⟩
abbrev cX6_next : ByteArray := prog_1_method_19_code
def yX6_next : MethodName := ⟨RX6, "next", "()I"⟩
abbrev cX6_wanting : ByteArray := prog_1_method_20_code
def yX6_wanting : MethodName := ⟨RX6, "wanting", "(I)I"⟩
abbrev cX6_piece : ByteArray := prog_1_method_21_code
def yX6_piece : MethodName := ⟨RX6, "piece", "(II)I"⟩
abbrev cX6_good : ByteArray := prog_1_method_22_code
def yX6_good : MethodName := ⟨RX6, "good", "(II)I"⟩
abbrev cX6_cut : ByteArray := prog_1_method_23_code
def yX6_cut : MethodName := ⟨RX6, "cut", "(II)I"⟩
abbrev cX6_made : ByteArray := prog_1_method_24_code
def yX6_made : MethodName := ⟨RX6, "made", "(III)I"⟩
abbrev cX6_keep : ByteArray := prog_1_method_25_code
def yX6_keep : MethodName := ⟨RX6, "keep", "(I)I"⟩
abbrev cX6_back : ByteArray := prog_1_method_26_code
def yX6_back : MethodName := ⟨RX6, "back", "(I)I"⟩
abbrev cX6_count : ByteArray := prog_1_method_27_code
def yX6_count : MethodName := ⟨RX6, "count", "(I)I"⟩
abbrev cX6_isKind : ByteArray := prog_1_method_28_code
def yX6_isKind : MethodName := ⟨RX6, "isKind", "(I)Z"⟩
abbrev cX6_isBlock : ByteArray := prog_1_method_29_code
def yX6_isBlock : MethodName := ⟨RX6, "isBlock", "(I)Z"⟩
abbrev cX6_isSquare : ByteArray := prog_1_method_30_code
def yX6_isSquare : MethodName := ⟨RX6, "isSquare", "(I)Z"⟩
abbrev cX6_isPiece : ByteArray := prog_1_method_31_code
def yX6_isPiece : MethodName := ⟨RX6, "isPiece", "(I)Z"⟩
abbrev cX6_isRectangle : ByteArray := prog_1_method_32_code
def yX6_isRectangle : MethodName := ⟨RX6, "isRectangle", "(II)Z"⟩
abbrev cX6_isImage : ByteArray := prog_1_method_33_code
def yX6_isImage : MethodName := ⟨RX6, "isImage", "(I)Z"⟩
abbrev cX6_openSquares : ByteArray := prog_1_method_34_code
def yX6_openSquares : MethodName := ⟨RX6, "openSquares", "()I"⟩
abbrev cX6_forgetImages : ByteArray := prog_1_method_35_code
def yX6_forgetImages : MethodName := ⟨RX6, "forgetImages", "()V"⟩
abbrev cX6_remember : ByteArray := prog_1_method_36_code
def yX6_remember : MethodName := ⟨RX6, "remember", "()V"⟩
abbrev cX6_whyNot : ByteArray := prog_1_method_37_code
def yX6_whyNot : MethodName := ⟨RX6, "whyNot", "(II)I"⟩
abbrev cX6_meetsNeighbours : ByteArray := prog_1_method_38_code
def yX6_meetsNeighbours : MethodName := ⟨RX6, "meetsNeighbours", "(II)Z"⟩
abbrev cX6_keepsRim : ByteArray := prog_1_method_39_code
def yX6_keepsRim : MethodName := ⟨RX6, "keepsRim", "(II)Z"⟩
abbrev cX6_quiltsOf : ByteArray := prog_1_method_40_code
def yX6_quiltsOf : MethodName := ⟨RX6, "quiltsOf", "(LQuiltPatches$Layout;I)I"⟩
abbrev cX6_sameWithAnotherAt : ByteArray := prog_1_method_41_code
def yX6_sameWithAnotherAt : MethodName := ⟨RX6, "sameWithAnotherAt", "(II)I"⟩
abbrev cX6_bitAt : ByteArray := prog_1_method_42_code
def yX6_bitAt : MethodName := ⟨RX6, "bitAt", "(II)I"⟩
abbrev cX6_opposite : ByteArray := prog_1_method_43_code
def yX6_opposite : MethodName := ⟨RX6, "opposite", "(I)I"⟩
def RX7 : String := "QuiltPatchesModel"
def TX7 : u_T := fun k => match k with
  | 0 => ("QuiltPatchesModel", "kinds", "I", false)
  | 1 => ("QuiltPatchesModel", "size", "[I", true)
  | 2 => ("QuiltPatchesModel", "told", "[I", true)
  | 3 => ("QuiltPatchesModel", "s", "[I", true)
  | 4 => ("QuiltPatchesModel", "undos", "I", false)
  | 5 => ("QuiltPatchesModel", "past", "[I", true)
  | 6 => ("QuiltPatchesModel", "isKept", "[Z", true)
  | 7 => ("QuiltPatchesModel", "kept", "[I", true)
  | 8 => ("QuiltPatchesModel", "newKinds", "I", false)
  | 9 => ("QuiltPatchesModel", "newSize", "[I", true)
  | 10 => ("QuiltPatchesModel", "newTold", "[I", true)
  | 11 => ("QuiltPatchesModel", "newStock", "[I", true)
  | 12 => ("QuiltPatchesModel", "letters", "I", false)
  | 13 => ("QuiltPatchesModel", "text", "[I", true)
  | 14 => ("QuiltPatchesModel", "at", "I", false)
  | 15 => ("QuiltPatchesModel", "number", "I", false)
  | 16 => ("QuiltPatchesModel", "met", "I", false)
  | 17 => ("QuiltPatchesModel", "t", "[I", true)
  | 18 => ("QuiltPatchesModel", "there", "[I", true)
  | 19 => ("QuiltPatchesModel", "opens", "I", false)
  | 20 => ("QuiltPatchesModel", "openAt", "[I", true)
  | 21 => ("QuiltPatchesModel", "tried", "[I", true)
  | 22 => ("QuiltPatchesModel", "depth", "I", false)
  | 23 => ("QuiltPatchesModel", "isFound", "Z", false)
  | 24 => ("QuiltPatchesModel", "butSquare", "I", false)
  | 25 => ("QuiltPatchesModel", "but", "I", false)
  | 26 => ("QuiltPatchesModel", "first", "[I", true)
  | 27 => ("QuiltPatchesModel", "goods", "[I", true)
  | 28 => ("QuiltPatchesModel", "cuts", "[I", true)
  | _ => ("QuiltPatchesModel", "pieces", "[I", true)
def tyX7 : Nat → FieldType := fun k => match k with
  | 0 => .int
  | 1 => .array .int
  | 2 => .array .int
  | 3 => .array .int
  | 4 => .int
  | 5 => .array .int
  | 6 => .array .boolean
  | 7 => .array .int
  | 8 => .int
  | 9 => .array .int
  | 10 => .array .int
  | 11 => .array .int
  | 12 => .int
  | 13 => .array .int
  | 14 => .int
  | 15 => .int
  | 16 => .int
  | 17 => .array .int
  | 18 => .array .int
  | 19 => .int
  | 20 => .array .int
  | 21 => .array .int
  | 22 => .int
  | 23 => .boolean
  | 24 => .int
  | 25 => .int
  | 26 => .array .int
  | 27 => .array .int
  | 28 => .array .int
  | _ => .array .int
abbrev wsX70 : List Cond := u_ws RX7 TX7 30
theorem nmX7 : ∀ a, a < 30 → ∀ b, b < 30 → a ≠ b → (TX7 a).2.1 ≠ (TX7 b).2.1 := by decide +kernel
theorem tyX7_ok : ∀ k, k < 30 → parseFieldDescriptor (TX7 k).2.2.1 = some (tyX7 k) := by decide +kernel
abbrev cX7_in : ByteArray := prog_9_method_1_code
def yX7_in : MethodName := ⟨RX7, "in", "(III)Z"⟩
abbrev cX7_init : ByteArray := prog_9_method_2_code
def yX7_init : MethodName := ⟨RX7, "<init>", "()V"⟩
abbrev cX7_begins : ByteArray := prog_9_method_3_code
def yX7_begins : MethodName := ⟨RX7, "begins", "()V"⟩
abbrev cX7_becomes : ByteArray := prog_9_method_4_code
def yX7_becomes : MethodName := ⟨RX7, "becomes", "()V"⟩
abbrev cX7_type : ByteArray := prog_9_method_5_code
def yX7_type : MethodName := ⟨RX7, "type", "(I)I"⟩
abbrev cX7_clear : ByteArray := prog_9_method_6_code
def yX7_clear : MethodName := ⟨RX7, "clear", "()I"⟩
abbrev cX7_here : ByteArray := prog_9_method_7_code
def yX7_here : MethodName := ⟨RX7, "here", "()I"⟩
abbrev cX7_reads : ByteArray := prog_9_method_8_code
def yX7_reads : MethodName := ⟨RX7, "reads", "(II)Z"⟩
abbrev cX7_readsKind : ByteArray := prog_9_method_9_code
def yX7_readsKind : MethodName := ⟨RX7, "readsKind", "()Z"⟩
abbrev cX7_readsOnce : ByteArray := prog_9_method_10_code
def yX7_readsOnce : MethodName := ⟨RX7, "readsOnce", "(IIIII)Z"⟩
abbrev cX7_item : ByteArray := prog_9_method_11_code
def yX7_item : MethodName := ⟨RX7, "item", "()Z"⟩
abbrev cX7_tells : ByteArray := prog_9_method_12_code
def yX7_tells : MethodName := ⟨RX7, "tells", "()I"⟩
abbrev cX7_isKind : ByteArray := prog_9_method_13_code
def yX7_isKind : MethodName := ⟨RX7, "isKind", "(I)Z"⟩
abbrev cX7_isBlock : ByteArray := prog_9_method_14_code
def yX7_isBlock : MethodName := ⟨RX7, "isBlock", "(I)Z"⟩
abbrev cX7_squares : ByteArray := prog_9_method_15_code
def yX7_squares : MethodName := ⟨RX7, "squares", "()I"⟩
abbrev cX7_isSquare : ByteArray := prog_9_method_16_code
def yX7_isSquare : MethodName := ⟨RX7, "isSquare", "(I)Z"⟩
abbrev cX7_edge : ByteArray := prog_9_method_17_code
def yX7_edge : MethodName := ⟨RX7, "edge", "(II)I"⟩
abbrev cX7_isPlain : ByteArray := prog_9_method_18_code
def yX7_isPlain : MethodName := ⟨RX7, "isPlain", "(I)Z"⟩
abbrev cX7_hueOf : ByteArray := prog_9_method_19_code
def yX7_hueOf : MethodName := ⟨RX7, "hueOf", "(I)I"⟩
abbrev cX7_tries : ByteArray := prog_9_method_20_code
def yX7_tries : MethodName := ⟨RX7, "tries", "()V"⟩
abbrev cX7_leftOf : ByteArray := prog_9_method_21_code
def yX7_leftOf : MethodName := ⟨RX7, "leftOf", "(I)I"⟩
abbrev cX7_ofHue : ByteArray := prog_9_method_22_code
def yX7_ofHue : MethodName := ⟨RX7, "ofHue", "(I)I"⟩
abbrev cX7_beside : ByteArray := prog_9_method_23_code
def yX7_beside : MethodName := ⟨RX7, "beside", "(II)I"⟩
abbrev cX7_whyNot : ByteArray := prog_9_method_24_code
def yX7_whyNot : MethodName := ⟨RX7, "whyNot", "(II)I"⟩
abbrev cX7_kind : ByteArray := prog_9_method_25_code
def yX7_kind : MethodName := ⟨RX7, "kind", "(II)I"⟩
abbrev cX7_block : ByteArray := prog_9_method_26_code
def yX7_block : MethodName := ⟨RX7, "block", "(II)I"⟩
abbrev cX7_open : ByteArray := prog_9_method_27_code
def yX7_open : MethodName := ⟨RX7, "open", "()I"⟩
abbrev cX7_notes : ByteArray := prog_9_method_28_code
def yX7_notes : MethodName := ⟨RX7, "notes", "()V"⟩
abbrev cX7_lays : ByteArray := prog_9_method_29_code
def yX7_lays : MethodName := ⟨RX7, "lays", "(II)I"⟩
abbrev cX7_takes : ByteArray := prog_9_method_30_code
def yX7_takes : MethodName := ⟨RX7, "takes", "(I)I"⟩
abbrev cX7_buys : ByteArray := prog_9_method_31_code
def yX7_buys : MethodName := ⟨RX7, "buys", "(II)I"⟩
abbrev cX7_clears : ByteArray := prog_9_method_32_code
def yX7_clears : MethodName := ⟨RX7, "clears", "()I"⟩
abbrev cX7_undo : ByteArray := prog_9_method_33_code
def yX7_undo : MethodName := ⟨RX7, "undo", "()I"⟩
abbrev cX7_square : ByteArray := prog_9_method_34_code
def yX7_square : MethodName := ⟨RX7, "square", "(I)I"⟩
abbrev cX7_fits : ByteArray := prog_9_method_35_code
def yX7_fits : MethodName := ⟨RX7, "fits", "(II)I"⟩
abbrev cX7_has : ByteArray := prog_9_method_36_code
def yX7_has : MethodName := ⟨RX7, "has", "(III)Z"⟩
abbrev cX7_stays : ByteArray := prog_9_method_37_code
def yX7_stays : MethodName := ⟨RX7, "stays", "(II)Z"⟩
abbrev cX7_winnows : ByteArray := prog_9_method_38_code
def yX7_winnows : MethodName := ⟨RX7, "winnows", "()V"⟩
abbrev cX7_ones : ByteArray := prog_9_method_39_code
def yX7_ones : MethodName := ⟨RX7, "ones", "(I)I"⟩
abbrev cX7_left : ByteArray := prog_9_method_40_code
def yX7_left : MethodName := ⟨RX7, "left", "(II)I"⟩
abbrev cX7_hueAt : ByteArray := prog_9_method_41_code
def yX7_hueAt : MethodName := ⟨RX7, "hueAt", "(I)I"⟩
abbrev cX7_hue : ByteArray := prog_9_method_42_code
def yX7_hue : MethodName := ⟨RX7, "hue", "(II)I"⟩
abbrev cX7_startsQuilts : ByteArray := prog_9_method_43_code
def yX7_startsQuilts : MethodName := ⟨RX7, "startsQuilts", "()V"⟩
abbrev cX7_canBe : ByteArray := prog_9_method_44_code
def yX7_canBe : MethodName := ⟨RX7, "canBe", "(II)Z"⟩
abbrev cX7_nextQuilt : ByteArray := prog_9_method_45_code
def yX7_nextQuilt : MethodName := ⟨RX7, "nextQuilt", "()Z"⟩
abbrev cX7_many : ByteArray := prog_9_method_46_code
def yX7_many : MethodName := ⟨RX7, "many", "(I)I"⟩
abbrev cX7_quilt : ByteArray := prog_9_method_47_code
def yX7_quilt : MethodName := ⟨RX7, "quilt", "(II)I"⟩
abbrev cX7_sure : ByteArray := prog_9_method_48_code
def yX7_sure : MethodName := ⟨RX7, "sure", "()I"⟩
abbrev cX7_next : ByteArray := prog_9_method_49_code
def yX7_next : MethodName := ⟨RX7, "next", "()I"⟩
abbrev cX7_wanting : ByteArray := prog_9_method_50_code
def yX7_wanting : MethodName := ⟨RX7, "wanting", "(I)I"⟩
abbrev cX7_side : ByteArray := prog_9_method_51_code
def yX7_side : MethodName := ⟨RX7, "side", "(IZ)I"⟩
abbrev cX7_pieceOf : ByteArray := prog_9_method_52_code
def yX7_pieceOf : MethodName := ⟨RX7, "pieceOf", "(II)I"⟩
abbrev cX7_laysCut : ByteArray := prog_9_method_53_code
def yX7_laysCut : MethodName := ⟨RX7, "laysCut", "(IIII)V"⟩
abbrev cX7_laysRectangle : ByteArray := prog_9_method_54_code
def yX7_laysRectangle : MethodName := ⟨RX7, "laysRectangle", "(II)V"⟩
abbrev cX7_laysCloth : ByteArray := prog_9_method_55_code
def yX7_laysCloth : MethodName := ⟨RX7, "laysCloth", "()V"⟩
abbrev cX7_isCloth : ByteArray := prog_9_method_56_code
def yX7_isCloth : MethodName := ⟨RX7, "isCloth", "(II)Z"⟩
abbrev cX7_piece : ByteArray := prog_9_method_57_code
def yX7_piece : MethodName := ⟨RX7, "piece", "(II)I"⟩
abbrev cX7_good : ByteArray := prog_9_method_58_code
def yX7_good : MethodName := ⟨RX7, "good", "(II)I"⟩
abbrev cX7_cut : ByteArray := prog_9_method_59_code
def yX7_cut : MethodName := ⟨RX7, "cut", "(II)I"⟩
abbrev cX7_made : ByteArray := prog_9_method_60_code
def yX7_made : MethodName := ⟨RX7, "made", "(III)I"⟩
abbrev cX7_keep : ByteArray := prog_9_method_61_code
def yX7_keep : MethodName := ⟨RX7, "keep", "(I)I"⟩
abbrev cX7_back : ByteArray := prog_9_method_62_code
def yX7_back : MethodName := ⟨RX7, "back", "(I)I"⟩
abbrev cX7_hues : ByteArray := prog_9_method_63_code
def yX7_hues : MethodName := ⟨RX7, "hues", "()I"⟩
abbrev cX7_count : ByteArray := prog_9_method_64_code
def yX7_count : MethodName := ⟨RX7, "count", "(I)I"⟩
def RJ6 : String := "java/lang/Integer"
def TJ6 : u_T := fun k => match k with
  | _ => ("", "", "", false)
def tyJ6 : Nat → FieldType := fun k => match k with
  | _ => .int
abbrev wsJ60 : List Cond := u_ws RJ6 TJ6 0
theorem nmJ6 : ∀ a, a < 0 → ∀ b, b < 0 → a ≠ b → (TJ6 a).2.1 ≠ (TJ6 b).2.1 := by decide +kernel
theorem tyJ6_ok : ∀ k, k < 0 → parseFieldDescriptor (TJ6 k).2.2.1 = some (tyJ6 k) := by decide +kernel
abbrev cJ6_bitCount_0f7a4 : ByteArray := prog_10_method_49_code
def yJ6_bitCount_0f7a4 : MethodName := ⟨RJ6, "bitCount", "(I)I"⟩
def RJ9 : String := "java/lang/Math"
def TJ9 : u_T := fun k => match k with
  | _ => ("", "", "", false)
def tyJ9 : Nat → FieldType := fun k => match k with
  | _ => .int
abbrev wsJ90 : List Cond := u_ws RJ9 TJ9 0
theorem nmJ9 : ∀ a, a < 0 → ∀ b, b < 0 → a ≠ b → (TJ9 a).2.1 ≠ (TJ9 b).2.1 := by decide +kernel
theorem tyJ9_ok : ∀ k, k < 0 → parseFieldDescriptor (TJ9 k).2.2.1 = some (tyJ9 k) := by decide +kernel
abbrev cJ9_max_7cf53 : ByteArray := prog_11_method_65_code
def yJ9_max_7cf53 : MethodName := ⟨RJ9, "max", "(II)I"⟩
abbrev cJ9_min_7cf53 : ByteArray := prog_11_method_69_code
def yJ9_min_7cf53 : MethodName := ⟨RJ9, "min", "(II)I"⟩
def RJ10 : String := "java/lang/System"
def TJ10 : u_T := fun k => match k with
  | _ => ("", "", "", false)
def tyJ10 : Nat → FieldType := fun k => match k with
  | _ => .int
abbrev wsJ100 : List Cond := u_ws RJ10 TJ10 0
theorem nmJ10 : ∀ a, a < 0 → ∀ b, b < 0 → a ≠ b → (TJ10 a).2.1 ≠ (TJ10 b).2.1 := by decide +kernel
theorem tyJ10_ok : ∀ k, k < 0 → parseFieldDescriptor (TJ10 k).2.2.1 = some (tyJ10 k) := by decide +kernel
def RJ7 : String := "java/util/Arrays"
def TJ7 : u_T := fun k => match k with
  | _ => ("", "", "", false)
def tyJ7 : Nat → FieldType := fun k => match k with
  | _ => .int
abbrev wsJ70 : List Cond := u_ws RJ7 TJ7 0
theorem nmJ7 : ∀ a, a < 0 → ∀ b, b < 0 → a ≠ b → (TJ7 a).2.1 ≠ (TJ7 b).2.1 := by decide +kernel
theorem tyJ7_ok : ∀ k, k < 0 → parseFieldDescriptor (TJ7 k).2.2.1 = some (tyJ7 k) := by decide +kernel
abbrev cJ7_fill_53178 : ByteArray := prog_13_method_103_code
def yJ7_fill_53178 : MethodName := ⟨RJ7, "fill", "([II)V"⟩
def RL : String := "QuiltPatchesLaw"
abbrev cL_law : ByteArray := code
def yL_law : MethodName := ⟨RL, "law", "([I)Z"⟩
end
section
/-! the tables of the little machine: classes, links, methods; their words by their places (printed by gen2.py) -/
def m_tbl : List Cond := lw_tbl.filter goodWord
theorem m_tbl_at {i : Nat} {w : Cond} (h : lw_tbl[i]? = some w ∧ goodWord w = true) : w ∈ m_tbl := List.mem_filter.mpr ⟨List.mem_of_getElem? h.1, h.2⟩
theorem m_tbl_sub {w : Cond} (h : w ∈ m_tbl) : w ∈ lw_tbl := (List.mem_filter.mp h).1
theorem m_tbl_good {w : Cond} (h : w ∈ m_tbl) : (w.onTables && w.keeps) = true ∨ ∃ ty, w = .arrayClass ty := good_of_word (List.mem_filter.mp h).2
abbrev m_classes : List vw_C := [(RX0, TX0, 6), (RX1, TX1, 9), (RX2, TX2, 2), (RX3, TX3, 8), (RX4, TX4, 11), (RX5, TX5, 1), (RX6, TX6, 16), (RX7, TX7, 30)]
def m_cR (o : Nat) : String := ["QuiltPatches$Cloth", "QuiltPatches$Finder", "QuiltPatches$Layout", "QuiltPatches$Reader", "QuiltPatches$Told", "QuiltPatches$Winnow", "QuiltPatches", "QuiltPatchesModel", "java/util/Arrays", "java/lang/Integer"].getD o ""
/-- a class's fields: 0 an int, 1 a boolean, 2 a reference -/
def m_tags : List (List Nat) := [[2, 2, 2, 2, 2, 1], [2, 2, 2, 2, 2, 2, 0, 0, 0], [2, 2], [0, 0, 0, 0, 1, 1, 1, 1], [0, 0, 0, 0, 0, 0, 0, 2, 2, 2, 2], [2], [2, 0, 2, 2, 2, 2, 2, 2, 0, 0, 2, 2, 2, 2, 2, 2], [0, 2, 2, 2, 0, 2, 2, 2, 0, 2, 2, 2, 0, 2, 0, 0, 0, 2, 2, 0, 2, 2, 0, 1, 0, 0, 2, 2, 2, 2]]
def m_tagL (ci : Nat) : List Nat := m_tags.getD ci []
/-- own class, index: class, field, place of the word -/
def m_fls : List (Nat × Nat × Nat × Nat × Nat) := [(3, 40, 3, 0, 87), (3, 33, 3, 1, 88), (3, 25, 3, 2, 89), (3, 67, 3, 3, 90), (3, 43, 3, 4, 91), (3, 47, 3, 5, 92), (3, 50, 3, 6, 93), (3, 53, 3, 7, 94), (4, 27, 4, 0, 123), (1, 49, 4, 0, 124), (5, 38, 4, 0, 125), (3, 60, 4, 0, 126), (6, 229, 4, 0, 127), (4, 31, 4, 1, 128), (0, 36, 4, 1, 129), (3, 88, 4, 1, 130), (6, 232, 4, 1, 131), (4, 34, 4, 2, 132), (0, 39, 4, 2, 133), (3, 91, 4, 2, 134), (6, 235, 4, 2, 135), (4, 37, 4, 3, 136), (5, 63, 4, 3, 137), (3, 94, 4, 3, 138), (6, 238, 4, 3, 139), (4, 40, 4, 4, 140), (1, 56, 4, 4, 141), (5, 53, 4, 4, 142), (3, 97, 4, 4, 143), (6, 241, 4, 4, 144), (4, 43, 4, 5, 145), (0, 27, 4, 5, 146), (3, 100, 4, 5, 147), (6, 244, 4, 5, 148), (4, 46, 4, 6, 149), (0, 33, 4, 6, 150), (3, 103, 4, 6, 151), (6, 247, 4, 6, 152), (4, 9, 4, 7, 153), (3, 106, 4, 7, 154), (4, 15, 4, 8, 155), (5, 46, 4, 8, 156), (1, 90, 4, 8, 157), (6, 103, 4, 8, 158), (2, 36, 4, 8, 159), (3, 109, 4, 8, 160), (4, 18, 4, 9, 161), (2, 21, 4, 9, 162), (3, 112, 4, 9, 163), (4, 21, 4, 10, 164), (2, 9, 2, 0, 201), (1, 40, 2, 0, 202), (5, 66, 2, 0, 203), (6, 135, 2, 0, 204), (2, 15, 2, 1, 205), (6, 106, 2, 1, 206), (5, 9, 5, 0, 219), (6, 161, 5, 0, 220), (1, 9, 1, 0, 231), (6, 186, 1, 0, 232), (1, 15, 1, 1, 233), (1, 18, 1, 2, 234), (1, 22, 1, 3, 235), (1, 25, 1, 4, 236), (1, 28, 1, 5, 237), (1, 37, 1, 6, 238), (1, 63, 1, 7, 239), (1, 66, 1, 8, 240), (0, 9, 0, 0, 266), (6, 201, 0, 0, 267), (0, 15, 0, 1, 268), (6, 204, 0, 1, 269), (0, 18, 0, 2, 270), (6, 214, 0, 2, 271), (0, 21, 0, 3, 272), (6, 220, 0, 3, 273), (0, 24, 0, 4, 274), (6, 223, 0, 4, 275), (0, 42, 0, 5, 276), (6, 9, 6, 0, 294), (6, 79, 6, 1, 295), (6, 16, 6, 2, 296), (6, 23, 6, 3, 297), (6, 27, 6, 4, 298), (6, 33, 6, 5, 299), (6, 37, 6, 6, 300), (6, 40, 6, 7, 301), (6, 148, 6, 8, 302), (6, 93, 6, 9, 303), (6, 44, 6, 10, 304), (6, 47, 6, 11, 305), (6, 54, 6, 12, 306), (6, 61, 6, 13, 307), (6, 68, 6, 14, 308), (6, 72, 6, 15, 309), (7, 75, 7, 0, 735), (7, 7, 7, 1, 736), (7, 13, 7, 2, 737), (7, 16, 7, 3, 738), (7, 78, 7, 4, 739), (7, 19, 7, 5, 740), (7, 22, 7, 6, 741), (7, 26, 7, 7, 742), (7, 71, 7, 8, 743), (7, 29, 7, 9, 744), (7, 32, 7, 10, 745), (7, 35, 7, 11, 746), (7, 85, 7, 12, 747), (7, 38, 7, 13, 748), (7, 88, 7, 14, 749), (7, 95, 7, 15, 750), (7, 102, 7, 16, 751), (7, 41, 7, 17, 752), (7, 44, 7, 18, 753), (7, 176, 7, 19, 754), (7, 47, 7, 20, 755), (7, 50, 7, 21, 756), (7, 179, 7, 22, 757), (7, 182, 7, 23, 758), (7, 186, 7, 24, 759), (7, 189, 7, 25, 760), (7, 53, 7, 26, 761), (7, 56, 7, 27, 762), (7, 59, 7, 28, 763), (7, 62, 7, 29, 764)]
def m_cls : List (Nat × Nat × Nat × Nat) := [(6, 13, 3, 81), (6, 20, 4, 113), (6, 30, 2, 188), (6, 51, 5, 213), (6, 58, 1, 225), (6, 65, 0, 260)]
def m_cns : List (Nat × Nat × Int × Nat) := [(9, 265, 1431655765, 575), (9, 266, 858993459, 576), (9, 267, 252645135, 577)]
def m_c0 : List (Nat × Instr × Nat) := [(0, .aload_n 0, 1), (1, .invokespecial 3, 3), (4, .aload_n 0, 1), (5, .iconst 3, 1), (6, .newarray .int, 2), (8, .putfield 9, 3), (11, .aload_n 0, 1), (12, .iconst 3, 1), (13, .newarray .int, 2), (15, .putfield 15, 3), (18, .aload_n 0, 1), (19, .sipush 625, 3), (22, .newarray .int, 2), (24, .putfield 18, 3), (27, .aload_n 0, 1), (28, .sipush 625, 3), (31, .newarray .int, 2), (33, .putfield 21, 3), (36, .aload_n 0, 1), (37, .sipush 1875, 3), (40, .newarray .int, 2), (42, .putfield 24, 3), (45, .return_, 1)]
def m_c1 : List (Nat × Instr × Nat) := [(0, .iload_n 0, 1), (1, .bipush 25, 2), (3, .imul, 1), (4, .iload_n 1, 1), (5, .iadd, 1), (6, .ireturn, 1)]
def m_c2 : List (Nat × Instr × Nat) := [(0, .aload_n 0, 1), (1, .getfield 9, 3), (4, .iconst 0, 1), (5, .aload_n 1, 1), (6, .getfield 27, 3), (9, .iastore, 1), (10, .aload_n 0, 1), (11, .getfield 15, 3), (14, .iconst 0, 1), (15, .aload_n 1, 1), (16, .getfield 27, 3), (19, .iastore, 1), (20, .aload_n 0, 1), (21, .getfield 9, 3), (24, .iconst 1, 1), (25, .aload_n 1, 1), (26, .getfield 33, 3), (29, .iastore, 1), (30, .aload_n 0, 1), (31, .getfield 15, 3), (34, .iconst 1, 1), (35, .aload_n 1, 1), (36, .getfield 36, 3), (39, .aload_n 1, 1), (40, .getfield 27, 3), (43, .imul, 1), (44, .iconst 2, 1), (45, .aload_n 1, 1), (46, .getfield 33, 3), (49, .imul, 1), (50, .iadd, 1), (51, .iastore, 1), (52, .aload_n 0, 1), (53, .getfield 9, 3), (56, .iconst 2, 1), (57, .aload_n 1, 1), (58, .getfield 33, 3), (61, .iastore, 1), (62, .aload_n 0, 1), (63, .getfield 15, 3), (66, .iconst 2, 1), (67, .aload_n 1, 1), (68, .getfield 39, 3), (71, .aload_n 1, 1), (72, .getfield 27, 3), (75, .imul, 1), (76, .iconst 2, 1), (77, .aload_n 1, 1), (78, .getfield 33, 3), (81, .imul, 1), (82, .iadd, 1), (83, .iastore, 1), (84, .aload_n 0, 1), (85, .iconst 0, 1), (86, .putfield 42, 3), (89, .return_, 1)]
def m_c3 : List (Nat × Instr × Nat) := [(0, .aload_n 0, 1), (1, .getfield 42, 3), (4, .ifCond .eq 4, 3), (7, .return_, 1), (8, .iconst 1, 1), (9, .istore_n 1, 1), (10, .iload_n 1, 1), (11, .bipush 24, 2), (13, .if_icmp .gt 29, 3), (16, .iconst 1, 1), (17, .istore_n 2, 1), (18, .iload_n 2, 1), (19, .bipush 24, 2), (21, .if_icmp .gt 15, 3), (24, .aload_n 0, 1), (25, .iload_n 1, 1), (26, .iload_n 2, 1), (27, .invokevirtual 46, 3), (30, .iinc 2 1, 3), (33, .goto (-15), 3), (36, .iinc 1 1, 3), (39, .goto (-29), 3), (42, .aload_n 0, 1), (43, .iconst 1, 1), (44, .putfield 42, 3), (47, .return_, 1)]
def m_c4 : List (Nat × Instr × Nat) := [(0, .iload_n 1, 1), (1, .iload_n 2, 1), (2, .invokestatic 50, 3), (5, .istore_n 3, 1), (6, .iconst 0, 1), (7, .istore 4, 2), (9, .iload 4, 2), (11, .iconst 3, 1), (12, .if_icmp .ge 23, 3), (15, .aload_n 0, 1), (16, .getfield 24, 3), (19, .iload 4, 2), (21, .sipush 625, 3), (24, .imul, 1), (25, .iload_n 3, 1), (26, .iadd, 1), (27, .iconst 0, 1), (28, .iastore, 1), (29, .iinc 4 1, 3), (32, .goto (-23), 3), (35, .aload_n 0, 1), (36, .iload_n 1, 1), (37, .iload_n 2, 1), (38, .invokevirtual 54, 3), (41, .istore 4, 2), (43, .iload 4, 2), (45, .ifCond .lt 37, 3), (48, .aload_n 0, 1), (49, .getfield 18, 3), (52, .iload_n 3, 1), (53, .iload_n 1, 1), (54, .iload_n 2, 1), (55, .imul, 1), (56, .iastore, 1), (57, .aload_n 0, 1), (58, .getfield 21, 3), (61, .iload_n 3, 1), (62, .iconst 1, 1), (63, .iload 4, 2), (65, .iadd, 1), (66, .iastore, 1), (67, .aload_n 0, 1), (68, .getfield 24, 3), (71, .iload 4, 2), (73, .sipush 625, 3), (76, .imul, 1), (77, .iload_n 3, 1), (78, .iadd, 1), (79, .iconst 1, 1), (80, .iastore, 1), (81, .return_, 1), (82, .aload_n 0, 1), (83, .getfield 18, 3), (86, .iload_n 3, 1), (87, .iconst 0, 1), (88, .iastore, 1), (89, .aload_n 0, 1), (90, .getfield 21, 3), (93, .iload_n 3, 1), (94, .iconst 0, 1), (95, .iastore, 1), (96, .iconst 1, 1), (97, .istore 5, 2), (99, .iload 5, 2), (101, .iload_n 1, 1), (102, .iconst 2, 1), (103, .idiv, 1), (104, .if_icmp .gt 33, 3), (107, .aload_n 0, 1), (108, .iload_n 3, 1), (109, .bipush 100, 2), (111, .iload 5, 2), (113, .iadd, 1), (114, .iload 5, 2), (116, .iload_n 2, 1), (117, .invokestatic 50, 3), (120, .iload_n 1, 1), (121, .iload 5, 2), (123, .isub, 1), (124, .iload_n 2, 1), (125, .invokestatic 50, 3), (128, .invokevirtual 57, 3), (131, .iinc 5 1, 3), (134, .goto (-35), 3), (137, .iconst 1, 1), (138, .istore 5, 2), (140, .iload 5, 2), (142, .iload_n 2, 1), (143, .iconst 2, 1), (144, .idiv, 1), (145, .if_icmp .gt 34, 3), (148, .aload_n 0, 1), (149, .iload_n 3, 1), (150, .sipush 200, 3), (153, .iload 5, 2), (155, .iadd, 1), (156, .iload_n 1, 1), (157, .iload 5, 2), (159, .invokestatic 50, 3), (162, .iload_n 1, 1), (163, .iload_n 2, 1), (164, .iload 5, 2), (166, .isub, 1), (167, .invokestatic 50, 3), (170, .invokevirtual 57, 3), (173, .iinc 5 1, 3), (176, .goto (-36), 3), (179, .return_, 1)]
def m_c5 : List (Nat × Instr × Nat) := [(0, .aload_n 0, 1), (1, .getfield 18, 3), (4, .iload_n 3, 1), (5, .iaload, 1), (6, .aload_n 0, 1), (7, .getfield 18, 3), (10, .iload 4, 2), (12, .iaload, 1), (13, .iadd, 1), (14, .istore 5, 2), (16, .iload 5, 2), (18, .aload_n 0, 1), (19, .getfield 18, 3), (22, .iload_n 1, 1), (23, .iaload, 1), (24, .if_icmp .gt 4, 3), (27, .return_, 1), (28, .aload_n 0, 1), (29, .getfield 18, 3), (32, .iload_n 1, 1), (33, .iload 5, 2), (35, .iastore, 1), (36, .aload_n 0, 1), (37, .getfield 21, 3), (40, .iload_n 1, 1), (41, .iload_n 2, 1), (42, .iastore, 1), (43, .iconst 0, 1), (44, .istore 6, 2), (46, .iload 6, 2), (48, .iconst 3, 1), (49, .if_icmp .ge 46, 3), (52, .iload 6, 2), (54, .sipush 625, 3), (57, .imul, 1), (58, .istore 7, 2), (60, .aload_n 0, 1), (61, .getfield 24, 3), (64, .iload 7, 2), (66, .iload_n 1, 1), (67, .iadd, 1), (68, .aload_n 0, 1), (69, .getfield 24, 3), (72, .iload 7, 2), (74, .iload_n 3, 1), (75, .iadd, 1), (76, .iaload, 1), (77, .aload_n 0, 1), (78, .getfield 24, 3), (81, .iload 7, 2), (83, .iload 4, 2), (85, .iadd, 1), (86, .iaload, 1), (87, .iadd, 1), (88, .iastore, 1), (89, .iinc 6 1, 3), (92, .goto (-46), 3), (95, .return_, 1)]
def m_c6 : List (Nat × Instr × Nat) := [(0, .iload_n 1, 1), (1, .iload_n 2, 1), (2, .invokestatic 61, 3), (5, .istore_n 3, 1), (6, .iload_n 1, 1), (7, .iload_n 2, 1), (8, .invokestatic 66, 3), (11, .istore 4, 2), (13, .iconst 0, 1), (14, .istore 5, 2), (16, .iload 5, 2), (18, .iconst 3, 1), (19, .if_icmp .ge 35, 3), (22, .aload_n 0, 1), (23, .getfield 9, 3), (26, .iload 5, 2), (28, .iaload, 1), (29, .iload_n 3, 1), (30, .if_icmp .ne 18, 3), (33, .aload_n 0, 1), (34, .getfield 15, 3), (37, .iload 5, 2), (39, .iaload, 1), (40, .iload 4, 2), (42, .if_icmp .ne 6, 3), (45, .iload 5, 2), (47, .ireturn, 1), (48, .iinc 5 1, 3), (51, .goto (-35), 3), (54, .bipush (-9), 2), (56, .ireturn, 1)]
def m_c7 : List (Nat × Instr × Nat) := [(0, .aload_n 0, 1), (1, .invokespecial 3, 3), (4, .aload_n 0, 1), (5, .bipush 6, 2), (7, .newarray .int, 2), (9, .putfield 9, 3), (12, .aload_n 0, 1), (13, .bipush 6, 2), (15, .newarray .int, 2), (17, .putfield 15, 3), (20, .aload_n 0, 1), (21, .bipush 6, 2), (23, .newarray .boolean, 2), (25, .putfield 18, 3), (28, .aload_n 0, 1), (29, .bipush 6, 2), (31, .newarray .int, 2), (33, .putfield 22, 3), (36, .aload_n 0, 1), (37, .bipush 6, 2), (39, .newarray .int, 2), (41, .putfield 25, 3), (44, .aload_n 0, 1), (45, .bipush 6, 2), (47, .newarray .int, 2), (49, .putfield 28, 3), (52, .return_, 1)]
def m_c8 : List (Nat × Instr × Nat) := [(0, .aload_n 0, 1), (1, .aload_n 1, 1), (2, .invokevirtual 31, 3), (5, .putfield 37, 3), (8, .iconst 0, 1), (9, .istore 5, 2), (11, .iconst 0, 1), (12, .istore 6, 2), (14, .iload 6, 2), (16, .bipush 6, 2), (18, .if_icmp .ge 95, 3), (21, .aload_n 0, 1), (22, .getfield 15, 3), (25, .iload 6, 2), (27, .aload_n 2, 1), (28, .getfield 40, 3), (31, .iload 6, 2), (33, .iaload, 1), (34, .iastore, 1), (35, .aload_n 0, 1), (36, .getfield 18, 3), (39, .iload 6, 2), (41, .iload 6, 2), (43, .aload_n 0, 1), (44, .getfield 37, 3), (47, .if_icmp .ge 16, 3), (50, .aload_n 2, 1), (51, .iload 6, 2), (53, .invokevirtual 45, 3), (56, .ifCond .eq 7, 3), (59, .iconst 1, 1), (60, .goto 4, 3), (63, .iconst 0, 1), (64, .bastore, 1), (65, .aload_n 0, 1), (66, .getfield 22, 3), (69, .iload 6, 2), (71, .iload 6, 2), (73, .aload_n 3, 1), (74, .arraylength, 1), (75, .if_icmp .ge 10, 3), (78, .aload_n 3, 1), (79, .iload 6, 2), (81, .iaload, 1), (82, .goto 4, 3), (85, .iconst 0, 1), (86, .iastore, 1), (87, .iload 5, 2), (89, .aload_n 0, 1), (90, .getfield 18, 3), (93, .iload 6, 2), (95, .baload, 1), (96, .ifCond .eq 7, 3), (99, .iconst 1, 1), (100, .goto 4, 3), (103, .iconst 0, 1), (104, .iadd, 1), (105, .istore 5, 2), (107, .iinc 6 1, 3), (110, .goto (-96), 3), (113, .iconst 0, 1), (114, .istore 6, 2), (116, .iload 6, 2), (118, .bipush 6, 2), (120, .if_icmp .ge 35, 3), (123, .aload_n 0, 1), (124, .getfield 25, 3), (127, .iload 6, 2), (129, .iload 6, 2), (131, .aload_n 1, 1), (132, .getfield 49, 3), (135, .if_icmp .ge 12, 3), (138, .aload_n 2, 1), (139, .iload 6, 2), (141, .invokevirtual 52, 3), (144, .goto 4, 3), (147, .iconst 0, 1), (148, .iastore, 1), (149, .iinc 6 1, 3), (152, .goto (-36), 3), (155, .iconst 0, 1), (156, .istore 6, 2), (158, .iload 6, 2), (160, .bipush 6, 2), (162, .if_icmp .ge 28, 3), (165, .aload_n 0, 1), (166, .getfield 28, 3), (169, .iload 6, 2), (171, .aload_n 1, 1), (172, .getfield 56, 3), (175, .aload_n 2, 1), (176, .aload_n 1, 1), (177, .iload 6, 2), (179, .invokevirtual 59, 3), (182, .isub, 1), (183, .iastore, 1), (184, .iinc 6 1, 3), (187, .goto (-29), 3), (190, .aload_n 0, 1), (191, .iconst 0, 1), (192, .putfield 63, 3), (195, .aload_n 0, 1), (196, .iload 4, 2), (198, .putfield 66, 3), (201, .aload_n 0, 1), (202, .aload_n 1, 1), (203, .invokevirtual 69, 3), (206, .iload 5, 2), (208, .if_icmp .lt 9, 3), (211, .aload_n 0, 1), (212, .aload_n 1, 1), (213, .iconst 0, 1), (214, .invokevirtual 73, 3), (217, .aload_n 0, 1), (218, .getfield 63, 3), (221, .ireturn, 1)]
def m_c9 : List (Nat × Instr × Nat) := [(0, .iload_n 2, 1), (1, .ifCond .lt 17, 3), (4, .iload_n 2, 1), (5, .aload_n 0, 1), (6, .getfield 37, 3), (9, .if_icmp .ge 9, 3), (12, .iload_n 2, 1), (13, .bipush 6, 2), (15, .if_icmp .lt 29, 3), (18, .aload_n 0, 1), (19, .dup, 1), (20, .getfield 63, 3), (23, .iconst 1, 1), (24, .iadd, 1), (25, .putfield 63, 3), (28, .aload_n 0, 1), (29, .getfield 15, 3), (32, .iconst 0, 1), (33, .aload_n 0, 1), (34, .getfield 9, 3), (37, .iconst 0, 1), (38, .bipush 6, 2), (40, .invokestatic 77, 3), (43, .return_, 1), (44, .aload_n 0, 1), (45, .getfield 18, 3), (48, .iload_n 2, 1), (49, .baload, 1), (50, .ifCond .ne 12, 3), (53, .aload_n 0, 1), (54, .aload_n 1, 1), (55, .iload_n 2, 1), (56, .iconst 1, 1), (57, .iadd, 1), (58, .invokevirtual 73, 3), (61, .return_, 1), (62, .aload_n 0, 1), (63, .aload_n 1, 1), (64, .iload_n 2, 1), (65, .invokevirtual 83, 3), (68, .istore_n 3, 1), (69, .iconst 0, 1), (70, .istore 4, 2), (72, .iload 4, 2), (74, .bipush 24, 2), (76, .if_icmp .ge 38, 3), (79, .aload_n 0, 1), (80, .getfield 63, 3), (83, .aload_n 0, 1), (84, .getfield 66, 3), (87, .if_icmp .ge 27, 3), (90, .iload_n 3, 1), (91, .iload 4, 2), (93, .ishr, 1), (94, .iconst 1, 1), (95, .iand, 1), (96, .iconst 1, 1), (97, .if_icmp .ne 11, 3), (100, .aload_n 0, 1), (101, .aload_n 1, 1), (102, .iload_n 2, 1), (103, .iload 4, 2), (105, .invokevirtual 86, 3), (108, .iinc 4 1, 3), (111, .goto (-39), 3), (114, .return_, 1)]
def m_c10 : List (Nat × Instr × Nat) := [(0, .iload_n 3, 1), (1, .iconst 4, 1), (2, .idiv, 1), (3, .istore 4, 2), (5, .iload 4, 2), (7, .ifCond .lt 20, 3), (10, .iload 4, 2), (12, .bipush 6, 2), (14, .if_icmp .ge 13, 3), (17, .aload_n 0, 1), (18, .getfield 25, 3), (21, .iload 4, 2), (23, .iaload, 1), (24, .ifCond .gt 4, 3), (27, .return_, 1), (28, .aload_n 1, 1), (29, .getfield 90, 3), (32, .iload 4, 2), (34, .iaload, 1), (35, .istore 5, 2), (37, .iload 5, 2), (39, .ifCond .lt 20, 3), (42, .iload 5, 2), (44, .bipush 6, 2), (46, .if_icmp .ge 13, 3), (49, .aload_n 0, 1), (50, .getfield 28, 3), (53, .iload 5, 2), (55, .iaload, 1), (56, .ifCond .gt 4, 3), (59, .return_, 1), (60, .aload_n 0, 1), (61, .getfield 15, 3), (64, .iload_n 2, 1), (65, .iload_n 3, 1), (66, .iastore, 1), (67, .aload_n 0, 1), (68, .getfield 25, 3), (71, .iload 4, 2), (73, .dup2, 1), (74, .iaload, 1), (75, .iconst 1, 1), (76, .isub, 1), (77, .iastore, 1), (78, .aload_n 0, 1), (79, .getfield 28, 3), (82, .iload 5, 2), (84, .dup2, 1), (85, .iaload, 1), (86, .iconst 1, 1), (87, .isub, 1), (88, .iastore, 1), (89, .aload_n 0, 1), (90, .aload_n 1, 1), (91, .iload_n 2, 1), (92, .iconst 1, 1), (93, .iadd, 1), (94, .invokevirtual 73, 3), (97, .aload_n 0, 1), (98, .getfield 28, 3), (101, .iload 5, 2), (103, .dup2, 1), (104, .iaload, 1), (105, .iconst 1, 1), (106, .iadd, 1), (107, .iastore, 1), (108, .aload_n 0, 1), (109, .getfield 25, 3), (112, .iload 4, 2), (114, .dup2, 1), (115, .iaload, 1), (116, .iconst 1, 1), (117, .iadd, 1), (118, .iastore, 1), (119, .return_, 1)]
def m_c11 : List (Nat × Instr × Nat) := [(0, .iconst 0, 1), (1, .istore_n 2, 1), (2, .iconst 0, 1), (3, .istore_n 3, 1), (4, .iload_n 3, 1), (5, .bipush 6, 2), (7, .if_icmp .ge 79, 3), (10, .iconst 0, 1), (11, .istore 4, 2), (13, .iconst 0, 1), (14, .istore 5, 2), (16, .iload 5, 2), (18, .aload_n 1, 1), (19, .getfield 49, 3), (22, .if_icmp .ge 40, 3), (25, .iload 4, 2), (27, .aload_n 1, 1), (28, .getfield 90, 3), (31, .iload 5, 2), (33, .iaload, 1), (34, .iload_n 3, 1), (35, .if_icmp .ne 17, 3), (38, .aload_n 0, 1), (39, .getfield 25, 3), (42, .iload 5, 2), (44, .iaload, 1), (45, .iconst 0, 1), (46, .invokestatic 93, 3), (49, .goto 4, 3), (52, .iconst 0, 1), (53, .iadd, 1), (54, .istore 4, 2), (56, .iinc 5 1, 3), (59, .goto (-43), 3), (62, .iload_n 2, 1), (63, .iload 4, 2), (65, .aload_n 0, 1), (66, .getfield 28, 3), (69, .iload_n 3, 1), (70, .iaload, 1), (71, .invokestatic 99, 3), (74, .iconst 0, 1), (75, .invokestatic 93, 3), (78, .iadd, 1), (79, .istore_n 2, 1), (80, .iinc 3 1, 3), (83, .goto (-79), 3), (86, .iload_n 2, 1), (87, .ireturn, 1)]
def m_c12 : List (Nat × Instr × Nat) := [(0, .aload_n 0, 1), (1, .getfield 22, 3), (4, .iload_n 2, 1), (5, .iaload, 1), (6, .istore_n 3, 1), (7, .aload_n 1, 1), (8, .iload_n 2, 1), (9, .iconst 0, 1), (10, .invokevirtual 102, 3), (13, .istore 4, 2), (15, .iload 4, 2), (17, .ifCond .lt 30, 3), (20, .iload 4, 2), (22, .bipush 6, 2), (24, .if_icmp .ge 23, 3), (27, .iload_n 3, 1), (28, .aload_n 1, 1), (29, .iconst 0, 1), (30, .aload_n 1, 1), (31, .aload_n 0, 1), (32, .getfield 15, 3), (35, .iload 4, 2), (37, .iaload, 1), (38, .iconst 2, 1), (39, .invokevirtual 105, 3), (42, .invokevirtual 108, 3), (45, .iand, 1), (46, .istore_n 3, 1), (47, .aload_n 1, 1), (48, .iload_n 2, 1), (49, .iconst 3, 1), (50, .invokevirtual 102, 3), (53, .istore 5, 2), (55, .iload 5, 2), (57, .ifCond .lt 30, 3), (60, .iload 5, 2), (62, .bipush 6, 2), (64, .if_icmp .ge 23, 3), (67, .iload_n 3, 1), (68, .aload_n 1, 1), (69, .iconst 3, 1), (70, .aload_n 1, 1), (71, .aload_n 0, 1), (72, .getfield 15, 3), (75, .iload 5, 2), (77, .iaload, 1), (78, .iconst 1, 1), (79, .invokevirtual 105, 3), (82, .invokevirtual 108, 3), (85, .iand, 1), (86, .istore_n 3, 1), (87, .iload_n 3, 1), (88, .ireturn, 1)]
def m_c13 : List (Nat × Instr × Nat) := [(0, .aload_n 0, 1), (1, .invokespecial 3, 3), (4, .aload_n 0, 1), (5, .bipush 6, 2), (7, .newarray .int, 2), (9, .putfield 9, 3), (12, .aload_n 0, 1), (13, .bipush 6, 2), (15, .newarray .int, 2), (17, .putfield 15, 3), (20, .aload_n 0, 1), (21, .invokevirtual 18, 3), (24, .return_, 1)]
def m_c14 : List (Nat × Instr × Nat) := [(0, .aload_n 0, 1), (1, .invokevirtual 18, 3), (4, .aload_n 1, 1), (5, .getfield 21, 3), (8, .iconst 0, 1), (9, .aload_n 0, 1), (10, .getfield 15, 3), (13, .iconst 0, 1), (14, .bipush 6, 2), (16, .invokestatic 24, 3), (19, .return_, 1)]
def m_c15 : List (Nat × Instr × Nat) := [(0, .aload_n 1, 1), (1, .getfield 9, 3), (4, .iconst 0, 1), (5, .aload_n 0, 1), (6, .getfield 9, 3), (9, .iconst 0, 1), (10, .bipush 6, 2), (12, .invokestatic 24, 3), (15, .aload_n 1, 1), (16, .getfield 15, 3), (19, .iconst 0, 1), (20, .aload_n 0, 1), (21, .getfield 15, 3), (24, .iconst 0, 1), (25, .bipush 6, 2), (27, .invokestatic 24, 3), (30, .return_, 1)]
def m_c16 : List (Nat × Instr × Nat) := [(0, .aload_n 0, 1), (1, .getfield 9, 3), (4, .bipush (-9), 2), (6, .invokestatic 30, 3), (9, .return_, 1)]
def m_c17 : List (Nat × Instr × Nat) := [(0, .iload_n 1, 1), (1, .ifCond .lt 24, 3), (4, .iload_n 1, 1), (5, .bipush 6, 2), (7, .if_icmp .ge 18, 3), (10, .aload_n 0, 1), (11, .getfield 9, 3), (14, .iload_n 1, 1), (15, .iaload, 1), (16, .bipush (-9), 2), (18, .if_icmp .ne 7, 3), (21, .iconst 1, 1), (22, .goto 4, 3), (25, .iconst 0, 1), (26, .ireturn, 1)]
def m_c18 : List (Nat × Instr × Nat) := [(0, .iload_n 1, 1), (1, .ifCond .lt 9, 3), (4, .iload_n 1, 1), (5, .bipush 6, 2), (7, .if_icmp .lt 5, 3), (10, .iconst 0, 1), (11, .ireturn, 1), (12, .iconst 0, 1), (13, .istore_n 2, 1), (14, .iconst 0, 1), (15, .istore_n 3, 1), (16, .iload_n 3, 1), (17, .bipush 6, 2), (19, .if_icmp .ge 33, 3), (22, .aload_n 0, 1), (23, .getfield 9, 3), (26, .iload_n 3, 1), (27, .iaload, 1), (28, .ifCond .lt 18, 3), (31, .aload_n 0, 1), (32, .getfield 9, 3), (35, .iload_n 3, 1), (36, .iaload, 1), (37, .iconst 4, 1), (38, .idiv, 1), (39, .iload_n 1, 1), (40, .if_icmp .ne 6, 3), (43, .iinc 2 1, 3), (46, .iinc 3 1, 3), (49, .goto (-33), 3), (52, .aload_n 0, 1), (53, .getfield 15, 3), (56, .iload_n 1, 1), (57, .iaload, 1), (58, .iload_n 2, 1), (59, .isub, 1), (60, .ireturn, 1)]
def m_c19 : List (Nat × Instr × Nat) := [(0, .iconst 0, 1), (1, .istore_n 3, 1), (2, .iconst 0, 1), (3, .istore 4, 2), (5, .iload 4, 2), (7, .bipush 6, 2), (9, .if_icmp .ge 51, 3), (12, .aload_n 0, 1), (13, .getfield 9, 3), (16, .iload 4, 2), (18, .iaload, 1), (19, .iconst 4, 1), (20, .idiv, 1), (21, .istore 5, 2), (23, .aload_n 0, 1), (24, .getfield 9, 3), (27, .iload 4, 2), (29, .iaload, 1), (30, .ifCond .lt 24, 3), (33, .iload 5, 2), (35, .bipush 6, 2), (37, .if_icmp .ge 17, 3), (40, .aload_n 1, 1), (41, .getfield 36, 3), (44, .iload 5, 2), (46, .iaload, 1), (47, .iload_n 2, 1), (48, .if_icmp .ne 6, 3), (51, .iinc 3 1, 3), (54, .iinc 4 1, 3), (57, .goto (-52), 3), (60, .iload_n 3, 1), (61, .ireturn, 1)]
def m_c20 : List (Nat × Instr × Nat) := [(0, .aload_n 0, 1), (1, .invokespecial 3, 3), (4, .return_, 1)]
def m_c21 : List (Nat × Instr × Nat) := [(0, .aload_n 0, 1), (1, .aload_n 1, 1), (2, .invokevirtual 9, 3), (5, .iload_n 3, 1), (6, .aload_n 2, 1), (7, .arraylength, 1), (8, .invokestatic 15, 3), (11, .istore 4, 2), (13, .iconst 0, 1), (14, .istore 5, 2), (16, .aload_n 0, 1), (17, .aload_n 2, 1), (18, .iload 4, 2), (20, .invokevirtual 21, 3), (23, .aload_n 0, 1), (24, .getfield 25, 3), (27, .iconst (-1), 1), (28, .if_icmp .eq 42, 3), (31, .iload 5, 2), (33, .bipush 120, 2), (35, .if_icmp .gt 35, 3), (38, .aload_n 0, 1), (39, .aload_n 1, 1), (40, .aload_n 2, 1), (41, .iload 4, 2), (43, .invokevirtual 29, 3), (46, .ifCond .ne 11, 3), (49, .bipush (-10), 2), (51, .aload_n 0, 1), (52, .getfield 33, 3), (55, .isub, 1), (56, .ireturn, 1), (57, .iinc 5 1, 3), (60, .aload_n 0, 1), (61, .aload_n 2, 1), (62, .iload 4, 2), (64, .invokevirtual 21, 3), (67, .goto (-44), 3), (70, .iload 5, 2), (72, .ireturn, 1)]
def m_c22 : List (Nat × Instr × Nat) := [(0, .aload_n 1, 1), (1, .invokevirtual 36, 3), (4, .aload_n 0, 1), (5, .iconst 0, 1), (6, .putfield 40, 3), (9, .aload_n 0, 1), (10, .iconst 0, 1), (11, .putfield 43, 3), (14, .aload_n 0, 1), (15, .iconst 0, 1), (16, .putfield 47, 3), (19, .aload_n 0, 1), (20, .iconst 0, 1), (21, .putfield 50, 3), (24, .aload_n 0, 1), (25, .iconst 0, 1), (26, .putfield 53, 3), (29, .return_, 1)]
def m_c23 : List (Nat × Instr × Nat) := [(0, .aload_n 0, 1), (1, .getfield 25, 3), (4, .istore 4, 2), (6, .aload_n 0, 1), (7, .aload_n 1, 1), (8, .iload 4, 2), (10, .invokevirtual 56, 3), (13, .ifCond .ne 5, 3), (16, .iconst 0, 1), (17, .ireturn, 1), (18, .aload_n 1, 1), (19, .getfield 60, 3), (22, .istore 5, 2), (24, .iconst 0, 1), (25, .istore 6, 2), (27, .iload 6, 2), (29, .iload 4, 2), (31, .invokestatic 63, 3), (34, .if_icmp .ge 63, 3), (37, .aload_n 0, 1), (38, .aload_n 2, 1), (39, .iload_n 3, 1), (40, .invokevirtual 21, 3), (43, .aload_n 0, 1), (44, .getfield 25, 3), (47, .bipush (-2), 2), (49, .if_icmp .ne 29, 3), (52, .aload_n 0, 1), (53, .getfield 67, 3), (56, .iload 4, 2), (58, .invokestatic 70, 3), (61, .if_icmp .lt 17, 3), (64, .aload_n 0, 1), (65, .getfield 67, 3), (68, .iload 4, 2), (70, .iload 6, 2), (72, .invokestatic 73, 3), (75, .if_icmp .le 5, 3), (78, .iconst 0, 1), (79, .ireturn, 1), (80, .aload_n 0, 1), (81, .aload_n 1, 1), (82, .iload 4, 2), (84, .iload 5, 2), (86, .iload 6, 2), (88, .invokevirtual 76, 3), (91, .iinc 6 1, 3), (94, .goto (-67), 3), (97, .aload_n 0, 1), (98, .aload_n 2, 1), (99, .iload_n 3, 1), (100, .invokevirtual 21, 3), (103, .aload_n 0, 1), (104, .getfield 25, 3), (107, .bipush 59, 2), (109, .if_icmp .eq 5, 3), (112, .iconst 0, 1), (113, .ireturn, 1), (114, .iload 4, 2), (116, .bipush 107, 2), (118, .if_icmp .ne 11, 3), (121, .aload_n 1, 1), (122, .iload 5, 2), (124, .iconst 1, 1), (125, .iadd, 1), (126, .putfield 60, 3), (129, .iconst 1, 1), (130, .ireturn, 1)]
def m_c24 : List (Nat × Instr × Nat) := [(0, .iload_n 2, 1), (1, .lookupswitch 153 #[(101, 90), (107, 51), (109, 111), (115, 132), (119, 69)], 51), (52, .aload_n 1, 1), (53, .getfield 60, 3), (56, .bipush 6, 2), (58, .if_icmp .ge 7, 3), (61, .iconst 1, 1), (62, .goto 4, 3), (65, .iconst 0, 1), (66, .istore_n 3, 1), (67, .goto 89, 3), (70, .aload_n 0, 1), (71, .getfield 43, 3), (74, .ifCond .ne 7, 3), (77, .iconst 1, 1), (78, .goto 4, 3), (81, .iconst 0, 1), (82, .istore_n 3, 1), (83, .aload_n 0, 1), (84, .iconst 1, 1), (85, .putfield 43, 3), (88, .goto 68, 3), (91, .aload_n 0, 1), (92, .getfield 47, 3), (95, .ifCond .ne 7, 3), (98, .iconst 1, 1), (99, .goto 4, 3), (102, .iconst 0, 1), (103, .istore_n 3, 1), (104, .aload_n 0, 1), (105, .iconst 1, 1), (106, .putfield 47, 3), (109, .goto 47, 3), (112, .aload_n 0, 1), (113, .getfield 50, 3), (116, .ifCond .ne 7, 3), (119, .iconst 1, 1), (120, .goto 4, 3), (123, .iconst 0, 1), (124, .istore_n 3, 1), (125, .aload_n 0, 1), (126, .iconst 1, 1), (127, .putfield 50, 3), (130, .goto 26, 3), (133, .aload_n 0, 1), (134, .getfield 53, 3), (137, .ifCond .ne 7, 3), (140, .iconst 1, 1), (141, .goto 4, 3), (144, .iconst 0, 1), (145, .istore_n 3, 1), (146, .aload_n 0, 1), (147, .iconst 1, 1), (148, .putfield 53, 3), (151, .goto 5, 3), (154, .iconst 0, 1), (155, .istore_n 3, 1), (156, .iload_n 3, 1), (157, .ireturn, 1)]
def m_c25 : List (Nat × Instr × Nat) := [(0, .iload_n 0, 1), (1, .lookupswitch 42 #[(107, 35), (115, 40), (119, 40)], 35), (36, .getstatic 80, 3), (39, .arraylength, 1), (40, .ireturn, 1), (41, .iconst 2, 1), (42, .ireturn, 1), (43, .iconst 1, 1), (44, .ireturn, 1)]
def m_c26 : List (Nat × Instr × Nat) := [(0, .iload_n 0, 1), (1, .bipush 107, 2), (3, .if_icmp .eq 9, 3), (6, .iload_n 0, 1), (7, .bipush 101, 2), (9, .if_icmp .ne 7, 3), (12, .iconst 0, 1), (13, .goto 4, 3), (16, .iconst 1, 1), (17, .ireturn, 1)]
def m_c27 : List (Nat × Instr × Nat) := [(0, .iload_n 0, 1), (1, .lookupswitch 78 #[(107, 35), (115, 67), (119, 57)], 35), (36, .iload_n 1, 1), (37, .ifCond .lt 19, 3), (40, .iload_n 1, 1), (41, .getstatic 80, 3), (44, .arraylength, 1), (45, .if_icmp .ge 11, 3), (48, .getstatic 80, 3), (51, .iload_n 1, 1), (52, .iaload, 1), (53, .goto 4, 3), (56, .iconst (-1), 1), (57, .ireturn, 1), (58, .iload_n 1, 1), (59, .ifCond .ne 7, 3), (62, .iconst 3, 1), (63, .goto 4, 3), (66, .iconst 2, 1), (67, .ireturn, 1), (68, .iload_n 1, 1), (69, .ifCond .ne 8, 3), (72, .bipush 9, 2), (74, .goto 4, 3), (77, .iconst 4, 1), (78, .ireturn, 1), (79, .bipush 9, 2), (81, .ireturn, 1)]
def m_c28 : List (Nat × Instr × Nat) := [(0, .iload_n 2, 1), (1, .lookupswitch 103 #[(101, 81), (107, 43), (109, 92), (119, 54)], 43), (44, .aload_n 0, 1), (45, .aload_n 1, 1), (46, .iload_n 3, 1), (47, .iload 4, 2), (49, .invokevirtual 84, 3), (52, .goto 76, 3), (55, .iload 4, 2), (57, .ifCond .ne 14, 3), (60, .aload_n 1, 1), (61, .aload_n 0, 1), (62, .getfield 67, 3), (65, .putfield 88, 3), (68, .goto 60, 3), (71, .aload_n 1, 1), (72, .aload_n 0, 1), (73, .getfield 67, 3), (76, .putfield 91, 3), (79, .goto 49, 3), (82, .aload_n 1, 1), (83, .aload_n 0, 1), (84, .getfield 67, 3), (87, .putfield 94, 3), (90, .goto 38, 3), (93, .aload_n 1, 1), (94, .aload_n 0, 1), (95, .getfield 67, 3), (98, .putfield 97, 3), (101, .goto 27, 3), (104, .iload 4, 2), (106, .ifCond .ne 14, 3), (109, .aload_n 1, 1), (110, .aload_n 0, 1), (111, .getfield 67, 3), (114, .putfield 100, 3), (117, .goto 11, 3), (120, .aload_n 1, 1), (121, .aload_n 0, 1), (122, .getfield 67, 3), (125, .putfield 103, 3), (128, .return_, 1)]
def m_c29 : List (Nat × Instr × Nat) := [(0, .iload_n 2, 1), (1, .ifCond .lt 13, 3), (4, .iload_n 2, 1), (5, .bipush 6, 2), (7, .if_icmp .ge 7, 3), (10, .iload_n 3, 1), (11, .ifCond .ge 4, 3), (14, .return_, 1), (15, .iload_n 3, 1), (16, .iconst 4, 1), (17, .if_icmp .ge 20, 3), (20, .aload_n 1, 1), (21, .getfield 106, 3), (24, .iload_n 2, 1), (25, .iconst 4, 1), (26, .imul, 1), (27, .iload_n 3, 1), (28, .iadd, 1), (29, .aload_n 0, 1), (30, .getfield 67, 3), (33, .iastore, 1), (34, .goto 31, 3), (37, .iload_n 3, 1), (38, .iconst 4, 1), (39, .if_icmp .ne 16, 3), (42, .aload_n 1, 1), (43, .getfield 109, 3), (46, .iload_n 2, 1), (47, .aload_n 0, 1), (48, .getfield 67, 3), (51, .iastore, 1), (52, .goto 13, 3), (55, .aload_n 1, 1), (56, .getfield 112, 3), (59, .iload_n 2, 1), (60, .aload_n 0, 1), (61, .getfield 67, 3), (64, .iastore, 1), (65, .return_, 1)]
def m_c30 : List (Nat × Instr × Nat) := [(0, .aload_n 0, 1), (1, .getfield 40, 3), (4, .iload_n 2, 1), (5, .if_icmp .ge 27, 3), (8, .aload_n 1, 1), (9, .aload_n 0, 1), (10, .getfield 40, 3), (13, .iaload, 1), (14, .bipush 32, 2), (16, .if_icmp .ne 16, 3), (19, .aload_n 0, 1), (20, .dup, 1), (21, .getfield 40, 3), (24, .iconst 1, 1), (25, .iadd, 1), (26, .putfield 40, 3), (29, .goto (-29), 3), (32, .aload_n 0, 1), (33, .aload_n 0, 1), (34, .getfield 40, 3), (37, .putfield 33, 3), (40, .aload_n 0, 1), (41, .getfield 40, 3), (44, .iload_n 2, 1), (45, .if_icmp .lt 9, 3), (48, .aload_n 0, 1), (49, .iconst (-1), 1), (50, .putfield 25, 3), (53, .return_, 1), (54, .aload_n 1, 1), (55, .aload_n 0, 1), (56, .getfield 40, 3), (59, .iaload, 1), (60, .istore_n 3, 1), (61, .iload_n 3, 1), (62, .invokestatic 115, 3), (65, .ifCond .eq 10, 3), (68, .aload_n 0, 1), (69, .aload_n 1, 1), (70, .iload_n 2, 1), (71, .invokevirtual 119, 3), (74, .return_, 1), (75, .aload_n 0, 1), (76, .dup, 1), (77, .getfield 40, 3), (80, .iconst 1, 1), (81, .iadd, 1), (82, .putfield 40, 3), (85, .aload_n 0, 1), (86, .iload_n 3, 1), (87, .invokestatic 122, 3), (90, .ifCond .eq 7, 3), (93, .iload_n 3, 1), (94, .goto 5, 3), (97, .bipush (-3), 2), (99, .putfield 25, 3), (102, .return_, 1)]
def m_c31 : List (Nat × Instr × Nat) := [(0, .aload_n 0, 1), (1, .iconst 0, 1), (2, .putfield 67, 3), (5, .aload_n 0, 1), (6, .getfield 40, 3), (9, .iload_n 2, 1), (10, .if_icmp .ge 54, 3), (13, .aload_n 1, 1), (14, .aload_n 0, 1), (15, .getfield 40, 3), (18, .iaload, 1), (19, .invokestatic 115, 3), (22, .ifCond .eq 42, 3), (25, .aload_n 0, 1), (26, .aload_n 0, 1), (27, .getfield 67, 3), (30, .bipush 10, 2), (32, .imul, 1), (33, .aload_n 1, 1), (34, .aload_n 0, 1), (35, .getfield 40, 3), (38, .iaload, 1), (39, .iadd, 1), (40, .bipush 48, 2), (42, .isub, 1), (43, .bipush 100, 2), (45, .invokestatic 15, 3), (48, .putfield 67, 3), (51, .aload_n 0, 1), (52, .dup, 1), (53, .getfield 40, 3), (56, .iconst 1, 1), (57, .iadd, 1), (58, .putfield 40, 3), (61, .goto (-56), 3), (64, .aload_n 0, 1), (65, .getfield 40, 3), (68, .aload_n 0, 1), (69, .getfield 33, 3), (72, .isub, 1), (73, .iconst 1, 1), (74, .if_icmp .le 18, 3), (77, .aload_n 1, 1), (78, .aload_n 0, 1), (79, .getfield 33, 3), (82, .iaload, 1), (83, .bipush 48, 2), (85, .if_icmp .ne 7, 3), (88, .iconst 1, 1), (89, .goto 4, 3), (92, .iconst 0, 1), (93, .istore_n 3, 1), (94, .aload_n 0, 1), (95, .aload_n 0, 1), (96, .getfield 67, 3), (99, .bipush 99, 2), (101, .if_icmp .gt 7, 3), (104, .iload_n 3, 1), (105, .ifCond .eq 8, 3), (108, .bipush (-3), 2), (110, .goto 5, 3), (113, .bipush (-2), 2), (115, .putfield 25, 3), (118, .return_, 1)]
def m_c32 : List (Nat × Instr × Nat) := [(0, .iload_n 0, 1), (1, .bipush 48, 2), (3, .if_icmp .lt 13, 3), (6, .iload_n 0, 1), (7, .bipush 57, 2), (9, .if_icmp .gt 7, 3), (12, .iconst 1, 1), (13, .goto 4, 3), (16, .iconst 0, 1), (17, .ireturn, 1)]
def m_c33 : List (Nat × Instr × Nat) := [(0, .iload_n 0, 1), (1, .bipush 107, 2), (3, .if_icmp .eq 33, 3), (6, .iload_n 0, 1), (7, .bipush 119, 2), (9, .if_icmp .eq 27, 3), (12, .iload_n 0, 1), (13, .bipush 101, 2), (15, .if_icmp .eq 21, 3), (18, .iload_n 0, 1), (19, .bipush 109, 2), (21, .if_icmp .eq 15, 3), (24, .iload_n 0, 1), (25, .bipush 115, 2), (27, .if_icmp .eq 9, 3), (30, .iload_n 0, 1), (31, .bipush 59, 2), (33, .if_icmp .ne 7, 3), (36, .iconst 1, 1), (37, .goto 4, 3), (40, .iconst 0, 1), (41, .ireturn, 1)]
def m_c34 : List (Nat × Instr × Nat) := [(0, .aload_n 0, 1), (1, .invokespecial 3, 3), (4, .aload_n 0, 1), (5, .bipush 24, 2), (7, .newarray .int, 2), (9, .putfield 9, 3), (12, .aload_n 0, 1), (13, .bipush 6, 2), (15, .newarray .int, 2), (17, .putfield 15, 3), (20, .aload_n 0, 1), (21, .bipush 6, 2), (23, .newarray .int, 2), (25, .putfield 18, 3), (28, .aload_n 0, 1), (29, .bipush 40, 2), (31, .newarray .int, 2), (33, .putfield 21, 3), (36, .aload_n 0, 1), (37, .invokevirtual 24, 3), (40, .return_, 1)]
def m_c35 : List (Nat × Instr × Nat) := [(0, .aload_n 0, 1), (1, .iconst 0, 1), (2, .putfield 27, 3), (5, .aload_n 0, 1), (6, .iconst 2, 1), (7, .putfield 31, 3), (10, .aload_n 0, 1), (11, .iconst 2, 1), (12, .putfield 34, 3), (15, .aload_n 0, 1), (16, .bipush (-9), 2), (18, .putfield 37, 3), (21, .aload_n 0, 1), (22, .bipush 9, 2), (24, .putfield 40, 3), (27, .aload_n 0, 1), (28, .iconst 4, 1), (29, .putfield 43, 3), (32, .aload_n 0, 1), (33, .iconst 1, 1), (34, .putfield 46, 3), (37, .return_, 1)]
def m_c36 : List (Nat × Instr × Nat) := [(0, .aload_n 0, 1), (1, .getfield 31, 3), (4, .aload_n 0, 1), (5, .getfield 34, 3), (8, .imul, 1), (9, .bipush 6, 2), (11, .invokestatic 49, 3), (14, .ireturn, 1)]
def m_c37 : List (Nat × Instr × Nat) := [(0, .iload_n 1, 1), (1, .ifCond .lt 18, 3), (4, .iload_n 1, 1), (5, .bipush 24, 2), (7, .if_icmp .ge 12, 3), (10, .iload_n 2, 1), (11, .ifCond .lt 8, 3), (14, .iload_n 2, 1), (15, .iconst 4, 1), (16, .if_icmp .lt 6, 3), (19, .bipush (-9), 2), (21, .ireturn, 1), (22, .iload_n 1, 1), (23, .iconst 4, 1), (24, .irem, 1), (25, .istore_n 3, 1), (26, .aload_n 0, 1), (27, .getfield 9, 3), (30, .iload_n 1, 1), (31, .iconst 4, 1), (32, .idiv, 1), (33, .iconst 4, 1), (34, .imul, 1), (35, .iload_n 2, 1), (36, .iconst 4, 1), (37, .iadd, 1), (38, .iload_n 3, 1), (39, .isub, 1), (40, .iconst 4, 1), (41, .irem, 1), (42, .iadd, 1), (43, .iaload, 1), (44, .ireturn, 1)]
def m_c38 : List (Nat × Instr × Nat) := [(0, .iload_n 1, 1), (1, .iload_n 1, 1), (2, .iconst 4, 1), (3, .irem, 1), (4, .isub, 1), (5, .istore_n 2, 1), (6, .iload_n 2, 1), (7, .iload_n 1, 1), (8, .if_icmp .ge 20, 3), (11, .aload_n 0, 1), (12, .iload_n 2, 1), (13, .iload_n 1, 1), (14, .invokevirtual 55, 3), (17, .ifCond .eq 5, 3), (20, .iconst 0, 1), (21, .ireturn, 1), (22, .iinc 2 1, 3), (25, .goto (-19), 3), (28, .iconst 1, 1), (29, .ireturn, 1)]
def m_c39 : List (Nat × Instr × Nat) := [(0, .iconst 0, 1), (1, .istore_n 3, 1), (2, .iload_n 3, 1), (3, .iconst 4, 1), (4, .if_icmp .ge 26, 3), (7, .aload_n 0, 1), (8, .iload_n 1, 1), (9, .iload_n 3, 1), (10, .invokevirtual 59, 3), (13, .aload_n 0, 1), (14, .iload_n 2, 1), (15, .iload_n 3, 1), (16, .invokevirtual 59, 3), (19, .if_icmp .eq 5, 3), (22, .iconst 0, 1), (23, .ireturn, 1), (24, .iinc 3 1, 3), (27, .goto (-25), 3), (30, .iconst 1, 1), (31, .ireturn, 1)]
def m_c40 : List (Nat × Instr × Nat) := [(0, .aload_n 0, 1), (1, .getfield 21, 3), (4, .iconst 0, 1), (5, .invokestatic 62, 3), (8, .iconst 0, 1), (9, .istore_n 1, 1), (10, .iload_n 1, 1), (11, .aload_n 0, 1), (12, .getfield 27, 3), (15, .iconst 4, 1), (16, .imul, 1), (17, .if_icmp .ge 52, 3), (20, .aload_n 0, 1), (21, .iload_n 1, 1), (22, .invokevirtual 68, 3), (25, .ifCond .eq 38, 3), (28, .iconst 0, 1), (29, .istore_n 2, 1), (30, .iload_n 2, 1), (31, .iconst 4, 1), (32, .if_icmp .ge 31, 3), (35, .aload_n 0, 1), (36, .getfield 21, 3), (39, .bipush 10, 2), (41, .iload_n 2, 1), (42, .imul, 1), (43, .aload_n 0, 1), (44, .iload_n 1, 1), (45, .iload_n 2, 1), (46, .invokevirtual 59, 3), (49, .iadd, 1), (50, .dup2, 1), (51, .iaload, 1), (52, .iconst 1, 1), (53, .iload_n 1, 1), (54, .ishl, 1), (55, .ior, 1), (56, .iastore, 1), (57, .iinc 2 1, 3), (60, .goto (-30), 3), (63, .iinc 1 1, 3), (66, .goto (-56), 3), (69, .return_, 1)]
def m_c41 : List (Nat × Instr × Nat) := [(0, .iload_n 1, 1), (1, .ifCond .lt 18, 3), (4, .iload_n 1, 1), (5, .iconst 4, 1), (6, .if_icmp .ge 13, 3), (9, .iload_n 2, 1), (10, .ifCond .lt 9, 3), (13, .iload_n 2, 1), (14, .bipush 10, 2), (16, .if_icmp .lt 5, 3), (19, .iconst 0, 1), (20, .ireturn, 1), (21, .aload_n 0, 1), (22, .getfield 21, 3), (25, .bipush 10, 2), (27, .iload_n 1, 1), (28, .imul, 1), (29, .iload_n 2, 1), (30, .iadd, 1), (31, .iaload, 1), (32, .ireturn, 1)]
def m_c42 : List (Nat × Instr × Nat) := [(0, .aload_n 0, 1), (1, .getfield 31, 3), (4, .iconst 1, 1), (5, .if_icmp .ge 6, 3), (8, .bipush (-9), 2), (10, .ireturn, 1), (11, .iload_n 1, 1), (12, .aload_n 0, 1), (13, .getfield 31, 3), (16, .irem, 1), (17, .istore_n 3, 1), (18, .iload_n 1, 1), (19, .aload_n 0, 1), (20, .getfield 31, 3), (23, .idiv, 1), (24, .istore 4, 2), (26, .iload_n 2, 1), (27, .tableswitch 84 0 2 #[25, 42, 61], 25), (52, .iload 4, 2), (54, .ifCond .le 12, 3), (57, .iload_n 1, 1), (58, .aload_n 0, 1), (59, .getfield 31, 3), (62, .isub, 1), (63, .goto 5, 3), (66, .bipush (-9), 2), (68, .ireturn, 1), (69, .iload_n 3, 1), (70, .aload_n 0, 1), (71, .getfield 31, 3), (74, .iconst 1, 1), (75, .isub, 1), (76, .if_icmp .ge 9, 3), (79, .iload_n 1, 1), (80, .iconst 1, 1), (81, .iadd, 1), (82, .goto 5, 3), (85, .bipush (-9), 2), (87, .ireturn, 1), (88, .iload 4, 2), (90, .aload_n 0, 1), (91, .getfield 34, 3), (94, .iconst 1, 1), (95, .isub, 1), (96, .if_icmp .ge 12, 3), (99, .iload_n 1, 1), (100, .aload_n 0, 1), (101, .getfield 31, 3), (104, .iadd, 1), (105, .goto 5, 3), (108, .bipush (-9), 2), (110, .ireturn, 1), (111, .iload_n 3, 1), (112, .ifCond .le 9, 3), (115, .iload_n 1, 1), (116, .iconst 1, 1), (117, .isub, 1), (118, .goto 5, 3), (121, .bipush (-9), 2), (123, .ireturn, 1)]
def m_c43 : List (Nat × Instr × Nat) := [(0, .iconst 0, 1), (1, .istore_n 2, 1), (2, .iload_n 2, 1), (3, .iload_n 1, 1), (4, .if_icmp .ge 26, 3), (7, .aload_n 0, 1), (8, .getfield 15, 3), (11, .iload_n 2, 1), (12, .iaload, 1), (13, .aload_n 0, 1), (14, .getfield 15, 3), (17, .iload_n 1, 1), (18, .iaload, 1), (19, .if_icmp .ne 5, 3), (22, .iconst 0, 1), (23, .ireturn, 1), (24, .iinc 2 1, 3), (27, .goto (-25), 3), (30, .iconst 1, 1), (31, .ireturn, 1)]
def m_c44 : List (Nat × Instr × Nat) := [(0, .iconst 0, 1), (1, .istore_n 1, 1), (2, .iconst 0, 1), (3, .istore_n 2, 1), (4, .iload_n 2, 1), (5, .aload_n 0, 1), (6, .getfield 27, 3), (9, .if_icmp .ge 20, 3), (12, .aload_n 0, 1), (13, .iload_n 2, 1), (14, .invokevirtual 72, 3), (17, .ifCond .eq 6, 3), (20, .iinc 1 1, 3), (23, .iinc 2 1, 3), (26, .goto (-22), 3), (29, .iload_n 1, 1), (30, .ireturn, 1)]
def m_c45 : List (Nat × Instr × Nat) := [(0, .iconst 0, 1), (1, .istore_n 2, 1), (2, .iconst 0, 1), (3, .istore_n 3, 1), (4, .iload_n 3, 1), (5, .aload_n 0, 1), (6, .getfield 27, 3), (9, .if_icmp .ge 32, 3), (12, .aload_n 0, 1), (13, .iload_n 3, 1), (14, .invokevirtual 72, 3), (17, .ifCond .eq 18, 3), (20, .iload_n 2, 1), (21, .iload_n 1, 1), (22, .if_icmp .ne 10, 3), (25, .aload_n 0, 1), (26, .getfield 15, 3), (29, .iload_n 3, 1), (30, .iaload, 1), (31, .ireturn, 1), (32, .iinc 2 1, 3), (35, .iinc 3 1, 3), (38, .goto (-34), 3), (41, .bipush (-9), 2), (43, .ireturn, 1)]
def m_c46 : List (Nat × Instr × Nat) := [(0, .iconst 0, 1), (1, .istore_n 2, 1), (2, .iconst 0, 1), (3, .istore_n 3, 1), (4, .iload_n 3, 1), (5, .aload_n 0, 1), (6, .getfield 27, 3), (9, .if_icmp .ge 22, 3), (12, .aload_n 0, 1), (13, .getfield 15, 3), (16, .iload_n 3, 1), (17, .iaload, 1), (18, .iload_n 1, 1), (19, .if_icmp .ne 6, 3), (22, .iinc 2 1, 3), (25, .iinc 3 1, 3), (28, .goto (-24), 3), (31, .iload_n 2, 1), (32, .ireturn, 1)]
def m_c47 : List (Nat × Instr × Nat) := [(0, .aload_n 0, 1), (1, .invokespecial 3, 3), (4, .aload_n 0, 1), (5, .bipush 6, 2), (7, .newarray .int, 2), (9, .putfield 9, 3), (12, .return_, 1)]
def m_c48 : List (Nat × Instr × Nat) := [(0, .aload_n 1, 1), (1, .aload_n 2, 1), (2, .invokestatic 15, 3), (5, .istore_n 3, 1), (6, .iconst 0, 1), (7, .istore 4, 2), (9, .iload 4, 2), (11, .bipush 6, 2), (13, .if_icmp .ge 59, 3), (16, .iload 4, 2), (18, .aload_n 1, 1), (19, .invokevirtual 19, 3), (22, .if_icmp .ge 16, 3), (25, .aload_n 2, 1), (26, .iload 4, 2), (28, .invokevirtual 25, 3), (31, .ifCond .eq 7, 3), (34, .iconst 1, 1), (35, .goto 4, 3), (38, .iconst 0, 1), (39, .istore 5, 2), (41, .aload_n 0, 1), (42, .getfield 9, 3), (45, .iload 4, 2), (47, .iload 5, 2), (49, .ifCond .eq 15, 3), (52, .iload_n 3, 1), (53, .aload_n 1, 1), (54, .aload_n 2, 1), (55, .iload 4, 2), (57, .invokestatic 31, 3), (60, .iand, 1), (61, .goto 4, 3), (64, .iconst 0, 1), (65, .iastore, 1), (66, .iinc 4 1, 3), (69, .goto (-60), 3), (72, .return_, 1)]
def m_c49 : List (Nat × Instr × Nat) := [(0, .iconst 1, 1), (1, .istore_n 3, 1), (2, .iconst 0, 1), (3, .istore 4, 2), (5, .iload_n 3, 1), (6, .ifCond .eq 95, 3), (9, .iload 4, 2), (11, .sipush 144, 3), (14, .if_icmp .gt 87, 3), (17, .iconst 0, 1), (18, .istore_n 3, 1), (19, .iconst 0, 1), (20, .istore 5, 2), (22, .iload 5, 2), (24, .aload_n 1, 1), (25, .invokevirtual 19, 3), (28, .if_icmp .ge 67, 3), (31, .aload_n 2, 1), (32, .iload 5, 2), (34, .invokevirtual 25, 3), (37, .ifCond .eq 52, 3), (40, .aload_n 0, 1), (41, .getfield 9, 3), (44, .iload 5, 2), (46, .iaload, 1), (47, .aload_n 0, 1), (48, .aload_n 1, 1), (49, .aload_n 2, 1), (50, .iload 5, 2), (52, .invokevirtual 35, 3), (55, .iand, 1), (56, .istore 6, 2), (58, .iload_n 3, 1), (59, .ifCond .ne 15, 3), (62, .iload 6, 2), (64, .aload_n 0, 1), (65, .getfield 9, 3), (68, .iload 5, 2), (70, .iaload, 1), (71, .if_icmp .eq 7, 3), (74, .iconst 1, 1), (75, .goto 4, 3), (78, .iconst 0, 1), (79, .istore_n 3, 1), (80, .aload_n 0, 1), (81, .getfield 9, 3), (84, .iload 5, 2), (86, .iload 6, 2), (88, .iastore, 1), (89, .iinc 5 1, 3), (92, .goto (-70), 3), (95, .iinc 4 1, 3), (98, .goto (-93), 3), (101, .return_, 1)]
def m_c50 : List (Nat × Instr × Nat) := [(0, .iconst 0, 1), (1, .istore_n 2, 1), (2, .iconst 0, 1), (3, .istore_n 3, 1), (4, .iload_n 3, 1), (5, .aload_n 0, 1), (6, .getfield 38, 3), (9, .if_icmp .ge 44, 3), (12, .aload_n 1, 1), (13, .iload_n 3, 1), (14, .invokevirtual 42, 3), (17, .ifCond .le 30, 3), (20, .aload_n 1, 1), (21, .aload_n 0, 1), (22, .aload_n 0, 1), (23, .getfield 46, 3), (26, .iload_n 3, 1), (27, .iaload, 1), (28, .invokevirtual 49, 3), (31, .aload_n 0, 1), (32, .getfield 53, 3), (35, .if_icmp .ge 12, 3), (38, .iload_n 2, 1), (39, .bipush 15, 2), (41, .iload_n 3, 1), (42, .iconst 4, 1), (43, .imul, 1), (44, .ishl, 1), (45, .ior, 1), (46, .istore_n 2, 1), (47, .iinc 3 1, 3), (50, .goto (-46), 3), (53, .iload_n 2, 1), (54, .ireturn, 1)]
def m_c51 : List (Nat × Instr × Nat) := [(0, .iconst 0, 1), (1, .istore_n 3, 1), (2, .iconst 0, 1), (3, .istore 4, 2), (5, .iload 4, 2), (7, .bipush 10, 2), (9, .if_icmp .ge 19, 3), (12, .iload_n 3, 1), (13, .aload_n 0, 1), (14, .iconst 0, 1), (15, .iload 4, 2), (17, .invokevirtual 56, 3), (20, .ior, 1), (21, .istore_n 3, 1), (22, .iinc 4 1, 3), (25, .goto (-20), 3), (28, .iconst 0, 1), (29, .istore 4, 2), (31, .iload 4, 2), (33, .iconst 4, 1), (34, .if_icmp .ge 93, 3), (37, .aload_n 0, 1), (38, .iload_n 2, 1), (39, .iload 4, 2), (41, .invokevirtual 60, 3), (44, .istore 5, 2), (46, .iload 5, 2), (48, .ifCond .lt 10, 3), (51, .iload 5, 2), (53, .bipush 6, 2), (55, .if_icmp .lt 32, 3), (58, .iload_n 3, 1), (59, .aload_n 0, 1), (60, .getfield 63, 3), (63, .bipush (-9), 2), (65, .if_icmp .ne 7, 3), (68, .iload_n 3, 1), (69, .goto 13, 3), (72, .aload_n 0, 1), (73, .iload 4, 2), (75, .aload_n 0, 1), (76, .getfield 63, 3), (79, .invokevirtual 56, 3), (82, .iand, 1), (83, .istore_n 3, 1), (84, .goto 37, 3), (87, .aload_n 1, 1), (88, .iload 5, 2), (90, .invokevirtual 25, 3), (93, .ifCond .ne 28, 3), (96, .iload_n 3, 1), (97, .aload_n 0, 1), (98, .iload 4, 2), (100, .aload_n 0, 1), (101, .aload_n 1, 1), (102, .getfield 66, 3), (105, .iload 5, 2), (107, .iaload, 1), (108, .iload 4, 2), (110, .invokestatic 69, 3), (113, .invokevirtual 72, 3), (116, .invokevirtual 56, 3), (119, .iand, 1), (120, .istore_n 3, 1), (121, .iinc 4 1, 3), (124, .goto (-93), 3), (127, .iload_n 3, 1), (128, .ireturn, 1)]
def m_c52 : List (Nat × Instr × Nat) := [(0, .aload_n 0, 1), (1, .getfield 9, 3), (4, .iload_n 3, 1), (5, .iaload, 1), (6, .istore 4, 2), (8, .iconst 0, 1), (9, .istore 5, 2), (11, .iload 5, 2), (13, .iconst 4, 1), (14, .if_icmp .ge 57, 3), (17, .aload_n 1, 1), (18, .iload_n 3, 1), (19, .iload 5, 2), (21, .invokevirtual 60, 3), (24, .istore 6, 2), (26, .iload 6, 2), (28, .ifCond .lt 37, 3), (31, .iload 6, 2), (33, .bipush 6, 2), (35, .if_icmp .ge 30, 3), (38, .aload_n 2, 1), (39, .iload 6, 2), (41, .invokevirtual 25, 3), (44, .ifCond .eq 21, 3), (47, .iload 4, 2), (49, .aload_n 1, 1), (50, .aload_n 0, 1), (51, .getfield 9, 3), (54, .iload 6, 2), (56, .iaload, 1), (57, .iload 5, 2), (59, .invokestatic 75, 3), (62, .iand, 1), (63, .istore 4, 2), (65, .iinc 5 1, 3), (68, .goto (-57), 3), (71, .iload 4, 2), (73, .ireturn, 1)]
def m_c53 : List (Nat × Instr × Nat) := [(0, .iconst 0, 1), (1, .istore_n 3, 1), (2, .iconst 0, 1), (3, .istore 4, 2), (5, .iload 4, 2), (7, .bipush 10, 2), (9, .if_icmp .ge 34, 3), (12, .iload_n 1, 1), (13, .aload_n 0, 1), (14, .iload_n 2, 1), (15, .invokestatic 69, 3), (18, .iload 4, 2), (20, .invokevirtual 56, 3), (23, .iand, 1), (24, .ifCond .eq 13, 3), (27, .iload_n 3, 1), (28, .aload_n 0, 1), (29, .iload_n 2, 1), (30, .iload 4, 2), (32, .invokevirtual 56, 3), (35, .ior, 1), (36, .istore_n 3, 1), (37, .iinc 4 1, 3), (40, .goto (-35), 3), (43, .iload_n 3, 1), (44, .ireturn, 1)]
def m_c54 : List (Nat × Instr × Nat) := [(0, .aload_n 0, 1), (1, .invokespecial 3, 3), (4, .aload_n 0, 1), (5, .bipush 120, 2), (7, .newarray .int, 2), (9, .putfield 9, 3), (12, .aload_n 0, 1), (13, .new 13, 3), (16, .dup, 1), (17, .invokespecial 15, 3), (20, .putfield 16, 3), (23, .aload_n 0, 1), (24, .new 20, 3), (27, .dup, 1), (28, .invokespecial 22, 3), (31, .putfield 23, 3), (34, .aload_n 0, 1), (35, .new 20, 3), (38, .dup, 1), (39, .invokespecial 22, 3), (42, .putfield 27, 3), (45, .aload_n 0, 1), (46, .new 30, 3), (49, .dup, 1), (50, .invokespecial 32, 3), (53, .putfield 33, 3), (56, .aload_n 0, 1), (57, .new 30, 3), (60, .dup, 1), (61, .invokespecial 32, 3), (64, .putfield 37, 3), (67, .aload_n 0, 1), (68, .bipush 10, 2), (70, .anewarray 30, 3), (73, .putfield 40, 3), (76, .aload_n 0, 1), (77, .iconst 2, 1), (78, .anewarray 30, 3), (81, .putfield 44, 3), (84, .aload_n 0, 1), (85, .iconst 2, 1), (86, .newarray .boolean, 2), (88, .putfield 47, 3), (91, .aload_n 0, 1), (92, .new 51, 3), (95, .dup, 1), (96, .invokespecial 53, 3), (99, .putfield 54, 3), (102, .aload_n 0, 1), (103, .new 58, 3), (106, .dup, 1), (107, .invokespecial 60, 3), (110, .putfield 61, 3), (113, .aload_n 0, 1), (114, .new 65, 3), (117, .dup, 1), (118, .invokespecial 67, 3), (121, .putfield 68, 3), (124, .aload_n 0, 1), (125, .bipush 6, 2), (127, .newarray .int, 2), (129, .putfield 72, 3), (132, .iconst 0, 1), (133, .istore_n 1, 1), (134, .iload_n 1, 1), (135, .bipush 10, 2), (137, .if_icmp .ge 22, 3), (140, .aload_n 0, 1), (141, .getfield 40, 3), (144, .iload_n 1, 1), (145, .new 30, 3), (148, .dup, 1), (149, .invokespecial 32, 3), (152, .aastore, 1), (153, .iinc 1 1, 3), (156, .goto (-22), 3), (159, .iconst 0, 1), (160, .istore_n 1, 1), (161, .iload_n 1, 1), (162, .iconst 2, 1), (163, .if_icmp .ge 22, 3), (166, .aload_n 0, 1), (167, .getfield 44, 3), (170, .iload_n 1, 1), (171, .new 30, 3), (174, .dup, 1), (175, .invokespecial 32, 3), (178, .aastore, 1), (179, .iinc 1 1, 3), (182, .goto (-21), 3), (185, .aload_n 0, 1), (186, .getfield 68, 3), (189, .aload_n 0, 1), (190, .getfield 23, 3), (193, .invokevirtual 75, 3), (196, .return_, 1)]
def m_c55 : List (Nat × Instr × Nat) := [(0, .iload_n 1, 1), (1, .ifCond .lt 10, 3), (4, .iload_n 1, 1), (5, .sipush 255, 3), (8, .if_icmp .le 5, 3), (11, .iconst (-1), 1), (12, .ireturn, 1), (13, .aload_n 0, 1), (14, .getfield 79, 3), (17, .bipush 120, 2), (19, .if_icmp .lt 6, 3), (22, .bipush (-3), 2), (24, .ireturn, 1), (25, .aload_n 0, 1), (26, .getfield 9, 3), (29, .aload_n 0, 1), (30, .getfield 79, 3), (33, .iload_n 1, 1), (34, .iastore, 1), (35, .aload_n 0, 1), (36, .dup, 1), (37, .getfield 79, 3), (40, .iconst 1, 1), (41, .iadd, 1), (42, .putfield 79, 3), (45, .aload_n 0, 1), (46, .getfield 79, 3), (49, .ireturn, 1)]
def m_c56 : List (Nat × Instr × Nat) := [(0, .aload_n 0, 1), (1, .getfield 79, 3), (4, .istore_n 1, 1), (5, .aload_n 0, 1), (6, .iconst 0, 1), (7, .putfield 79, 3), (10, .iload_n 1, 1), (11, .ireturn, 1)]
def m_c57 : List (Nat × Instr × Nat) := [(0, .aload_n 0, 1), (1, .getfield 16, 3), (4, .aload_n 0, 1), (5, .getfield 27, 3), (8, .aload_n 0, 1), (9, .getfield 9, 3), (12, .aload_n 0, 1), (13, .getfield 79, 3), (16, .invokevirtual 83, 3), (19, .istore_n 1, 1), (20, .iload_n 1, 1), (21, .ifCond .ge 5, 3), (24, .iload_n 1, 1), (25, .ireturn, 1), (26, .aload_n 0, 1), (27, .getfield 23, 3), (30, .astore_n 2, 1), (31, .aload_n 0, 1), (32, .aload_n 0, 1), (33, .getfield 27, 3), (36, .putfield 23, 3), (39, .aload_n 0, 1), (40, .aload_n 2, 1), (41, .putfield 27, 3), (44, .aload_n 0, 1), (45, .getfield 23, 3), (48, .invokevirtual 87, 3), (51, .aload_n 0, 1), (52, .getfield 33, 3), (55, .aload_n 0, 1), (56, .getfield 23, 3), (59, .invokevirtual 90, 3), (62, .aload_n 0, 1), (63, .iconst 0, 1), (64, .putfield 79, 3), (67, .aload_n 0, 1), (68, .iconst 0, 1), (69, .putfield 93, 3), (72, .aload_n 0, 1), (73, .invokevirtual 96, 3), (76, .aload_n 0, 1), (77, .getfield 68, 3), (80, .aload_n 0, 1), (81, .getfield 23, 3), (84, .invokevirtual 75, 3), (87, .iload_n 1, 1), (88, .ireturn, 1)]
def m_c58 : List (Nat × Instr × Nat) := [(0, .aload_n 0, 1), (1, .iload_n 1, 1), (2, .invokevirtual 99, 3), (5, .ifCond .eq 13, 3), (8, .iload_n 2, 1), (9, .ifCond .lt 9, 3), (12, .iload_n 2, 1), (13, .bipush 6, 2), (15, .if_icmp .le 5, 3), (18, .iconst (-1), 1), (19, .ireturn, 1), (20, .iload_n 2, 1), (21, .tableswitch 59 4 6 #[27, 37, 47], 27), (48, .aload_n 0, 1), (49, .getfield 23, 3), (52, .getfield 103, 3), (55, .iload_n 1, 1), (56, .iaload, 1), (57, .ireturn, 1), (58, .aload_n 0, 1), (59, .getfield 33, 3), (62, .getfield 106, 3), (65, .iload_n 1, 1), (66, .iaload, 1), (67, .ireturn, 1), (68, .aload_n 0, 1), (69, .getfield 33, 3), (72, .iload_n 1, 1), (73, .invokevirtual 109, 3), (76, .bipush 100, 2), (78, .iadd, 1), (79, .ireturn, 1), (80, .aload_n 0, 1), (81, .getfield 23, 3), (84, .iload_n 1, 1), (85, .iconst 4, 1), (86, .imul, 1), (87, .iload_n 2, 1), (88, .invokevirtual 113, 3), (91, .ireturn, 1)]
def m_c59 : List (Nat × Instr × Nat) := [(0, .aload_n 0, 1), (1, .iload_n 1, 1), (2, .invokevirtual 117, 3), (5, .ifCond .eq 12, 3), (8, .iload_n 2, 1), (9, .ifCond .lt 8, 3), (12, .iload_n 2, 1), (13, .iconst 4, 1), (14, .if_icmp .le 5, 3), (17, .iconst (-1), 1), (18, .ireturn, 1), (19, .iload_n 2, 1), (20, .iconst 4, 1), (21, .if_icmp .ne 20, 3), (24, .aload_n 0, 1), (25, .getfield 23, 3), (28, .iload_n 1, 1), (29, .invokevirtual 120, 3), (32, .ifCond .eq 7, 3), (35, .iconst 1, 1), (36, .goto 4, 3), (39, .iconst 0, 1), (40, .ireturn, 1), (41, .aload_n 0, 1), (42, .getfield 23, 3), (45, .iload_n 1, 1), (46, .iload_n 2, 1), (47, .invokevirtual 113, 3), (50, .ireturn, 1)]
def m_c60 : List (Nat × Instr × Nat) := [(0, .aload_n 0, 1), (1, .iload_n 1, 1), (2, .invokevirtual 123, 3), (5, .ifCond .eq 11, 3), (8, .aload_n 0, 1), (9, .iload_n 2, 1), (10, .invokevirtual 117, 3), (13, .ifCond .ne 5, 3), (16, .iconst (-1), 1), (17, .ireturn, 1), (18, .aload_n 0, 1), (19, .getfield 33, 3), (22, .iload_n 1, 1), (23, .invokevirtual 126, 3), (26, .ifCond .ne 6, 3), (29, .bipush (-2), 2), (31, .ireturn, 1), (32, .aload_n 0, 1), (33, .iload_n 1, 1), (34, .iload_n 2, 1), (35, .invokevirtual 129, 3), (38, .istore_n 3, 1), (39, .iload_n 3, 1), (40, .ifCond .eq 8, 3), (43, .bipush (-10), 2), (45, .iload_n 3, 1), (46, .isub, 1), (47, .ireturn, 1), (48, .aload_n 0, 1), (49, .invokevirtual 132, 3), (52, .aload_n 0, 1), (53, .getfield 33, 3), (56, .getfield 135, 3), (59, .iload_n 1, 1), (60, .iload_n 2, 1), (61, .iastore, 1), (62, .aload_n 0, 1), (63, .invokevirtual 138, 3), (66, .ireturn, 1)]
def m_c61 : List (Nat × Instr × Nat) := [(0, .aload_n 0, 1), (1, .iload_n 1, 1), (2, .invokevirtual 123, 3), (5, .ifCond .ne 5, 3), (8, .iconst (-1), 1), (9, .ireturn, 1), (10, .aload_n 0, 1), (11, .getfield 33, 3), (14, .iload_n 1, 1), (15, .invokevirtual 126, 3), (18, .ifCond .eq 6, 3), (21, .bipush (-2), 2), (23, .ireturn, 1), (24, .aload_n 0, 1), (25, .invokevirtual 132, 3), (28, .aload_n 0, 1), (29, .getfield 33, 3), (32, .getfield 135, 3), (35, .iload_n 1, 1), (36, .iaload, 1), (37, .istore_n 2, 1), (38, .aload_n 0, 1), (39, .getfield 33, 3), (42, .getfield 135, 3), (45, .iload_n 1, 1), (46, .bipush (-9), 2), (48, .iastore, 1), (49, .iload_n 2, 1), (50, .ireturn, 1)]
def m_c62 : List (Nat × Instr × Nat) := [(0, .aload_n 0, 1), (1, .iload_n 1, 1), (2, .invokevirtual 99, 3), (5, .ifCond .eq 13, 3), (8, .iload_n 2, 1), (9, .ifCond .lt 9, 3), (12, .iload_n 2, 1), (13, .bipush 9, 2), (15, .if_icmp .le 5, 3), (18, .iconst (-1), 1), (19, .ireturn, 1), (20, .aload_n 0, 1), (21, .getfield 33, 3), (24, .getfield 106, 3), (27, .iload_n 1, 1), (28, .iaload, 1), (29, .istore_n 3, 1), (30, .iload_n 3, 1), (31, .iload_n 2, 1), (32, .if_icmp .ne 6, 3), (35, .bipush (-2), 2), (37, .ireturn, 1), (38, .aload_n 0, 1), (39, .invokevirtual 132, 3), (42, .aload_n 0, 1), (43, .getfield 33, 3), (46, .getfield 106, 3), (49, .iload_n 1, 1), (50, .iload_n 2, 1), (51, .iastore, 1), (52, .iload_n 3, 1), (53, .ireturn, 1)]
def m_c63 : List (Nat × Instr × Nat) := [(0, .aload_n 0, 1), (1, .getfield 23, 3), (4, .invokevirtual 142, 3), (7, .aload_n 0, 1), (8, .invokevirtual 138, 3), (11, .isub, 1), (12, .istore_n 1, 1), (13, .aload_n 0, 1), (14, .invokevirtual 132, 3), (17, .aload_n 0, 1), (18, .getfield 33, 3), (21, .invokevirtual 145, 3), (24, .iload_n 1, 1), (25, .ireturn, 1)]
def m_c64 : List (Nat × Instr × Nat) := [(0, .aload_n 0, 1), (1, .getfield 93, 3), (4, .iconst 1, 1), (5, .if_icmp .ge 6, 3), (8, .bipush (-2), 2), (10, .ireturn, 1), (11, .aload_n 0, 1), (12, .aload_n 0, 1), (13, .getfield 148, 3), (16, .bipush 10, 2), (18, .iadd, 1), (19, .iconst 1, 1), (20, .isub, 1), (21, .bipush 10, 2), (23, .irem, 1), (24, .putfield 148, 3), (27, .aload_n 0, 1), (28, .dup, 1), (29, .getfield 93, 3), (32, .iconst 1, 1), (33, .isub, 1), (34, .putfield 93, 3), (37, .aload_n 0, 1), (38, .getfield 33, 3), (41, .aload_n 0, 1), (42, .getfield 40, 3), (45, .aload_n 0, 1), (46, .getfield 148, 3), (49, .aaload, 1), (50, .invokevirtual 151, 3), (53, .aload_n 0, 1), (54, .getfield 93, 3), (57, .ireturn, 1)]
def m_c65 : List (Nat × Instr × Nat) := [(0, .aload_n 0, 1), (1, .iload_n 1, 1), (2, .invokevirtual 123, 3), (5, .ifCond .ne 5, 3), (8, .iconst (-1), 1), (9, .ireturn, 1), (10, .aload_n 0, 1), (11, .getfield 33, 3), (14, .getfield 135, 3), (17, .iload_n 1, 1), (18, .iaload, 1), (19, .ireturn, 1)]
def m_c66 : List (Nat × Instr × Nat) := [(0, .aload_n 0, 1), (1, .iload_n 1, 1), (2, .invokevirtual 123, 3), (5, .ifCond .eq 11, 3), (8, .aload_n 0, 1), (9, .iload_n 2, 1), (10, .invokevirtual 117, 3), (13, .ifCond .ne 5, 3), (16, .iconst (-1), 1), (17, .ireturn, 1), (18, .aload_n 0, 1), (19, .getfield 33, 3), (22, .iload_n 1, 1), (23, .invokevirtual 126, 3), (26, .ifCond .ne 6, 3), (29, .bipush (-2), 2), (31, .ireturn, 1), (32, .aload_n 0, 1), (33, .iload_n 1, 1), (34, .iload_n 2, 1), (35, .invokevirtual 129, 3), (38, .ireturn, 1)]
def m_c67 : List (Nat × Instr × Nat) := [(0, .aload_n 0, 1), (1, .iload_n 1, 1), (2, .invokevirtual 123, 3), (5, .ifCond .eq 8, 3), (8, .iload_n 2, 1), (9, .iconst (-1), 1), (10, .if_icmp .ge 5, 3), (13, .iconst (-1), 1), (14, .ireturn, 1), (15, .aload_n 0, 1), (16, .getfield 33, 3), (19, .iload_n 1, 1), (20, .invokevirtual 126, 3), (23, .ifCond .ne 6, 3), (26, .bipush (-2), 2), (28, .ireturn, 1), (29, .aload_n 0, 1), (30, .getfield 54, 3), (33, .aload_n 0, 1), (34, .getfield 23, 3), (37, .aload_n 0, 1), (38, .getfield 33, 3), (41, .invokevirtual 155, 3), (44, .aload_n 0, 1), (45, .getfield 54, 3), (48, .aload_n 0, 1), (49, .getfield 23, 3), (52, .aload_n 0, 1), (53, .getfield 33, 3), (56, .invokevirtual 158, 3), (59, .aload_n 0, 1), (60, .getfield 54, 3), (63, .getfield 161, 3), (66, .iload_n 1, 1), (67, .iaload, 1), (68, .istore_n 3, 1), (69, .iload_n 2, 1), (70, .iconst (-1), 1), (71, .if_icmp .ne 10, 3), (74, .iload_n 3, 1), (75, .invokestatic 164, 3), (78, .goto 8, 3), (81, .iload_n 3, 1), (82, .iload_n 2, 1), (83, .invokestatic 169, 3), (86, .ireturn, 1)]
def m_c68 : List (Nat × Instr × Nat) := [(0, .iload_n 1, 1), (1, .ifCond .lt 12, 3), (4, .iload_n 2, 1), (5, .ifCond .lt 8, 3), (8, .iload_n 2, 1), (9, .iconst 2, 1), (10, .if_icmp .le 5, 3), (13, .iconst (-1), 1), (14, .ireturn, 1), (15, .aload_n 0, 1), (16, .getfield 23, 3), (19, .iload_n 1, 1), (20, .invokevirtual 172, 3), (23, .istore_n 3, 1), (24, .iload_n 3, 1), (25, .ifCond .lt 7, 3), (28, .iload_n 2, 1), (29, .ifCond .ne 5, 3), (32, .iload_n 3, 1), (33, .ireturn, 1), (34, .iload_n 2, 1), (35, .iconst 1, 1), (36, .if_icmp .ne 14, 3), (39, .aload_n 0, 1), (40, .getfield 23, 3), (43, .iload_n 3, 1), (44, .invokevirtual 175, 3), (47, .goto 15, 3), (50, .aload_n 0, 1), (51, .getfield 33, 3), (54, .aload_n 0, 1), (55, .getfield 23, 3), (58, .iload_n 3, 1), (59, .invokevirtual 178, 3), (62, .ireturn, 1)]
def m_c69 : List (Nat × Instr × Nat) := [(0, .iload_n 1, 1), (1, .iconst 1, 1), (2, .if_icmp .lt 10, 3), (5, .iload_n 1, 1), (6, .sipush 300, 3), (9, .if_icmp .le 5, 3), (12, .iconst (-1), 1), (13, .ireturn, 1), (14, .aload_n 0, 1), (15, .aload_n 0, 1), (16, .getfield 33, 3), (19, .iload_n 1, 1), (20, .invokevirtual 182, 3), (23, .ireturn, 1)]
def m_c70 : List (Nat × Instr × Nat) := [(0, .iload_n 1, 1), (1, .ifCond .lt 18, 3), (4, .iload_n 1, 1), (5, .sipush 300, 3), (8, .if_icmp .ge 11, 3), (11, .aload_n 0, 1), (12, .iload_n 2, 1), (13, .invokevirtual 123, 3), (16, .ifCond .ne 5, 3), (19, .iconst (-1), 1), (20, .ireturn, 1), (21, .aload_n 0, 1), (22, .aload_n 0, 1), (23, .getfield 33, 3), (26, .iload_n 1, 1), (27, .iconst 1, 1), (28, .iadd, 1), (29, .invokevirtual 182, 3), (32, .iload_n 1, 1), (33, .if_icmp .le 15, 3), (36, .aload_n 0, 1), (37, .getfield 61, 3), (40, .getfield 186, 3), (43, .iload_n 2, 1), (44, .iaload, 1), (45, .goto 5, 3), (48, .bipush (-9), 2), (50, .ireturn, 1)]
def m_c71 : List (Nat × Instr × Nat) := [(0, .aload_n 0, 1), (1, .aload_n 0, 1), (2, .getfield 33, 3), (5, .iconst 1, 1), (6, .invokevirtual 182, 3), (9, .iconst 1, 1), (10, .if_icmp .ge 5, 3), (13, .iconst 0, 1), (14, .ireturn, 1), (15, .aload_n 0, 1), (16, .getfield 61, 3), (19, .getfield 186, 3), (22, .iconst 0, 1), (23, .aload_n 0, 1), (24, .getfield 72, 3), (27, .iconst 0, 1), (28, .bipush 6, 2), (30, .invokestatic 189, 3), (33, .iconst 0, 1), (34, .istore_n 1, 1), (35, .iconst 0, 1), (36, .istore_n 2, 1), (37, .iload_n 2, 1), (38, .aload_n 0, 1), (39, .getfield 23, 3), (42, .invokevirtual 142, 3), (45, .if_icmp .ge 26, 3), (48, .aload_n 0, 1), (49, .getfield 33, 3), (52, .iload_n 2, 1), (53, .invokevirtual 126, 3), (56, .ifCond .eq 9, 3), (59, .iload_n 1, 1), (60, .iconst 1, 1), (61, .iload_n 2, 1), (62, .ishl, 1), (63, .ior, 1), (64, .istore_n 1, 1), (65, .iinc 2 1, 3), (68, .goto (-31), 3), (71, .iconst 0, 1), (72, .istore_n 2, 1), (73, .iload_n 2, 1), (74, .bipush 6, 2), (76, .if_icmp .ge 25, 3), (79, .iload_n 1, 1), (80, .iload_n 2, 1), (81, .ishr, 1), (82, .iconst 1, 1), (83, .iand, 1), (84, .iconst 1, 1), (85, .if_icmp .ne 10, 3), (88, .aload_n 0, 1), (89, .iload_n 2, 1), (90, .iload_n 1, 1), (91, .invokevirtual 195, 3), (94, .istore_n 1, 1), (95, .iinc 2 1, 3), (98, .goto (-25), 3), (101, .iload_n 1, 1), (102, .ireturn, 1)]
def m_c72 : List (Nat × Instr × Nat) := [(0, .aload_n 0, 1), (1, .getfield 54, 3), (4, .aload_n 0, 1), (5, .getfield 23, 3), (8, .aload_n 0, 1), (9, .getfield 33, 3), (12, .invokevirtual 155, 3), (15, .aload_n 0, 1), (16, .getfield 54, 3), (19, .aload_n 0, 1), (20, .getfield 23, 3), (23, .aload_n 0, 1), (24, .getfield 33, 3), (27, .invokevirtual 158, 3), (30, .bipush (-9), 2), (32, .istore_n 1, 1), (33, .bipush 25, 2), (35, .istore_n 2, 1), (36, .iconst 0, 1), (37, .istore_n 3, 1), (38, .iload_n 3, 1), (39, .aload_n 0, 1), (40, .getfield 23, 3), (43, .invokevirtual 142, 3), (46, .if_icmp .ge 45, 3), (49, .aload_n 0, 1), (50, .getfield 54, 3), (53, .getfield 161, 3), (56, .iload_n 3, 1), (57, .iaload, 1), (58, .invokestatic 164, 3), (61, .istore 4, 2), (63, .aload_n 0, 1), (64, .getfield 33, 3), (67, .iload_n 3, 1), (68, .invokevirtual 126, 3), (71, .ifCond .eq 14, 3), (74, .iload 4, 2), (76, .iload_n 2, 1), (77, .if_icmp .ge 8, 3), (80, .iload_n 3, 1), (81, .istore_n 1, 1), (82, .iload 4, 2), (84, .istore_n 2, 1), (85, .iinc 3 1, 3), (88, .goto (-50), 3), (91, .iload_n 1, 1), (92, .ireturn, 1)]
def m_c73 : List (Nat × Instr × Nat) := [(0, .aload_n 0, 1), (1, .iload_n 1, 1), (2, .invokevirtual 99, 3), (5, .ifCond .ne 5, 3), (8, .iconst (-1), 1), (9, .ireturn, 1), (10, .aload_n 0, 1), (11, .getfield 37, 3), (14, .aload_n 0, 1), (15, .getfield 33, 3), (18, .invokevirtual 151, 3), (21, .aload_n 0, 1), (22, .getfield 37, 3), (25, .getfield 106, 3), (28, .iload_n 1, 1), (29, .bipush 9, 2), (31, .iastore, 1), (32, .aload_n 0, 1), (33, .aload_n 0, 1), (34, .getfield 37, 3), (37, .iconst 1, 1), (38, .invokevirtual 182, 3), (41, .iconst 1, 1), (42, .if_icmp .ge 6, 3), (45, .bipush (-9), 2), (47, .ireturn, 1), (48, .iconst 0, 1), (49, .istore_n 2, 1), (50, .iload_n 2, 1), (51, .bipush 9, 2), (53, .if_icmp .ge 33, 3), (56, .aload_n 0, 1), (57, .getfield 37, 3), (60, .getfield 106, 3), (63, .iload_n 1, 1), (64, .iload_n 2, 1), (65, .iastore, 1), (66, .aload_n 0, 1), (67, .aload_n 0, 1), (68, .getfield 37, 3), (71, .iconst 1, 1), (72, .invokevirtual 182, 3), (75, .ifCond .le 5, 3), (78, .iload_n 2, 1), (79, .ireturn, 1), (80, .iinc 2 1, 3), (83, .goto (-33), 3), (86, .bipush 9, 2), (88, .ireturn, 1)]
def m_c74 : List (Nat × Instr × Nat) := [(0, .iload_n 1, 1), (1, .invokestatic 198, 3), (4, .ifCond .eq 12, 3), (7, .iload_n 2, 1), (8, .ifCond .lt 8, 3), (11, .iload_n 2, 1), (12, .iconst 1, 1), (13, .if_icmp .le 5, 3), (16, .iconst (-1), 1), (17, .ireturn, 1), (18, .iload_n 2, 1), (19, .ifCond .ne 15, 3), (22, .aload_n 0, 1), (23, .getfield 68, 3), (26, .getfield 201, 3), (29, .iload_n 1, 1), (30, .iaload, 1), (31, .goto 12, 3), (34, .aload_n 0, 1), (35, .getfield 68, 3), (38, .getfield 204, 3), (41, .iload_n 1, 1), (42, .iaload, 1), (43, .ireturn, 1)]
def m_c75 : List (Nat × Instr × Nat) := [(0, .iload_n 1, 1), (1, .iload_n 2, 1), (2, .invokestatic 207, 3), (5, .ifCond .ne 5, 3), (8, .iconst (-1), 1), (9, .ireturn, 1), (10, .aload_n 0, 1), (11, .getfield 68, 3), (14, .invokevirtual 211, 3), (17, .aload_n 0, 1), (18, .getfield 68, 3), (21, .getfield 214, 3), (24, .iload_n 1, 1), (25, .iload_n 2, 1), (26, .invokestatic 217, 3), (29, .iaload, 1), (30, .ireturn, 1)]
def m_c76 : List (Nat × Instr × Nat) := [(0, .iload_n 1, 1), (1, .iload_n 2, 1), (2, .invokestatic 207, 3), (5, .ifCond .ne 5, 3), (8, .iconst (-1), 1), (9, .ireturn, 1), (10, .aload_n 0, 1), (11, .getfield 68, 3), (14, .invokevirtual 211, 3), (17, .aload_n 0, 1), (18, .getfield 68, 3), (21, .getfield 220, 3), (24, .iload_n 1, 1), (25, .iload_n 2, 1), (26, .invokestatic 217, 3), (29, .iaload, 1), (30, .ireturn, 1)]
def m_c77 : List (Nat × Instr × Nat) := [(0, .iload_n 1, 1), (1, .iload_n 2, 1), (2, .invokestatic 207, 3), (5, .ifCond .eq 10, 3), (8, .iload_n 3, 1), (9, .invokestatic 198, 3), (12, .ifCond .ne 5, 3), (15, .iconst (-1), 1), (16, .ireturn, 1), (17, .aload_n 0, 1), (18, .getfield 68, 3), (21, .invokevirtual 211, 3), (24, .aload_n 0, 1), (25, .getfield 68, 3), (28, .getfield 223, 3), (31, .iload_n 3, 1), (32, .sipush 625, 3), (35, .imul, 1), (36, .iload_n 1, 1), (37, .iload_n 2, 1), (38, .invokestatic 217, 3), (41, .iadd, 1), (42, .iaload, 1), (43, .ireturn, 1)]
def m_c78 : List (Nat × Instr × Nat) := [(0, .iload_n 1, 1), (1, .invokestatic 226, 3), (4, .ifCond .ne 5, 3), (7, .iconst (-1), 1), (8, .ireturn, 1), (9, .aload_n 0, 1), (10, .getfield 44, 3), (13, .iload_n 1, 1), (14, .aaload, 1), (15, .aload_n 0, 1), (16, .getfield 33, 3), (19, .invokevirtual 151, 3), (22, .aload_n 0, 1), (23, .getfield 47, 3), (26, .iload_n 1, 1), (27, .iconst 1, 1), (28, .bastore, 1), (29, .aload_n 0, 1), (30, .invokevirtual 138, 3), (33, .ireturn, 1)]
def m_c79 : List (Nat × Instr × Nat) := [(0, .iload_n 1, 1), (1, .invokestatic 226, 3), (4, .ifCond .ne 5, 3), (7, .iconst (-1), 1), (8, .ireturn, 1), (9, .aload_n 0, 1), (10, .getfield 47, 3), (13, .iload_n 1, 1), (14, .baload, 1), (15, .ifCond .ne 6, 3), (18, .bipush (-2), 2), (20, .ireturn, 1), (21, .aload_n 0, 1), (22, .getfield 33, 3), (25, .aload_n 0, 1), (26, .getfield 44, 3), (29, .iload_n 1, 1), (30, .aaload, 1), (31, .invokevirtual 151, 3), (34, .aload_n 0, 1), (35, .iconst 0, 1), (36, .putfield 93, 3), (39, .aload_n 0, 1), (40, .invokevirtual 138, 3), (43, .ireturn, 1)]
def m_c80 : List (Nat × Instr × Nat) := [(0, .iload_n 1, 1), (1, .tableswitch 138 0 10 #[59, 67, 75, 83, 91, 99, 107, 115, 120, 125, 130], 59), (60, .aload_n 0, 1), (61, .getfield 23, 3), (64, .getfield 229, 3), (67, .ireturn, 1), (68, .aload_n 0, 1), (69, .getfield 23, 3), (72, .getfield 232, 3), (75, .ireturn, 1), (76, .aload_n 0, 1), (77, .getfield 23, 3), (80, .getfield 235, 3), (83, .ireturn, 1), (84, .aload_n 0, 1), (85, .getfield 23, 3), (88, .getfield 238, 3), (91, .ireturn, 1), (92, .aload_n 0, 1), (93, .getfield 23, 3), (96, .getfield 241, 3), (99, .ireturn, 1), (100, .aload_n 0, 1), (101, .getfield 23, 3), (104, .getfield 244, 3), (107, .ireturn, 1), (108, .aload_n 0, 1), (109, .getfield 23, 3), (112, .getfield 247, 3), (115, .ireturn, 1), (116, .aload_n 0, 1), (117, .invokevirtual 138, 3), (120, .ireturn, 1), (121, .aload_n 0, 1), (122, .getfield 79, 3), (125, .ireturn, 1), (126, .aload_n 0, 1), (127, .getfield 93, 3), (130, .ireturn, 1), (131, .aload_n 0, 1), (132, .getfield 23, 3), (135, .invokevirtual 250, 3), (138, .ireturn, 1), (139, .iconst (-1), 1), (140, .ireturn, 1)]
def m_c81 : List (Nat × Instr × Nat) := [(0, .iload_n 1, 1), (1, .ifCond .lt 18, 3), (4, .iload_n 1, 1), (5, .aload_n 0, 1), (6, .getfield 23, 3), (9, .getfield 229, 3), (12, .if_icmp .ge 7, 3), (15, .iconst 1, 1), (16, .goto 4, 3), (19, .iconst 0, 1), (20, .ireturn, 1)]
def m_c82 : List (Nat × Instr × Nat) := [(0, .iload_n 1, 1), (1, .ifCond .lt 20, 3), (4, .iload_n 1, 1), (5, .aload_n 0, 1), (6, .getfield 23, 3), (9, .getfield 229, 3), (12, .iconst 4, 1), (13, .imul, 1), (14, .if_icmp .ge 7, 3), (17, .iconst 1, 1), (18, .goto 4, 3), (21, .iconst 0, 1), (22, .ireturn, 1)]
def m_c83 : List (Nat × Instr × Nat) := [(0, .iload_n 1, 1), (1, .ifCond .lt 18, 3), (4, .iload_n 1, 1), (5, .aload_n 0, 1), (6, .getfield 23, 3), (9, .invokevirtual 142, 3), (12, .if_icmp .ge 7, 3), (15, .iconst 1, 1), (16, .goto 4, 3), (19, .iconst 0, 1), (20, .ireturn, 1)]
def m_c84 : List (Nat × Instr × Nat) := [(0, .iload_n 0, 1), (1, .ifCond .lt 12, 3), (4, .iload_n 0, 1), (5, .iconst 3, 1), (6, .if_icmp .ge 7, 3), (9, .iconst 1, 1), (10, .goto 4, 3), (13, .iconst 0, 1), (14, .ireturn, 1)]
def m_c85 : List (Nat × Instr × Nat) := [(0, .iload_n 0, 1), (1, .iconst 1, 1), (2, .if_icmp .lt 24, 3), (5, .iload_n 0, 1), (6, .bipush 24, 2), (8, .if_icmp .gt 18, 3), (11, .iload_n 1, 1), (12, .iconst 1, 1), (13, .if_icmp .lt 13, 3), (16, .iload_n 1, 1), (17, .bipush 24, 2), (19, .if_icmp .gt 7, 3), (22, .iconst 1, 1), (23, .goto 4, 3), (26, .iconst 0, 1), (27, .ireturn, 1)]
def m_c86 : List (Nat × Instr × Nat) := [(0, .iload_n 0, 1), (1, .ifCond .lt 12, 3), (4, .iload_n 0, 1), (5, .iconst 2, 1), (6, .if_icmp .ge 7, 3), (9, .iconst 1, 1), (10, .goto 4, 3), (13, .iconst 0, 1), (14, .ireturn, 1)]
def m_c87 : List (Nat × Instr × Nat) := [(0, .iconst 0, 1), (1, .istore_n 1, 1), (2, .iconst 0, 1), (3, .istore_n 2, 1), (4, .iload_n 2, 1), (5, .aload_n 0, 1), (6, .getfield 23, 3), (9, .invokevirtual 142, 3), (12, .if_icmp .ge 23, 3), (15, .aload_n 0, 1), (16, .getfield 33, 3), (19, .iload_n 2, 1), (20, .invokevirtual 126, 3), (23, .ifCond .eq 6, 3), (26, .iinc 1 1, 3), (29, .iinc 2 1, 3), (32, .goto (-28), 3), (35, .iload_n 1, 1), (36, .ireturn, 1)]
def m_c88 : List (Nat × Instr × Nat) := [(0, .iconst 0, 1), (1, .istore_n 1, 1), (2, .iload_n 1, 1), (3, .iconst 2, 1), (4, .if_icmp .ge 16, 3), (7, .aload_n 0, 1), (8, .getfield 47, 3), (11, .iload_n 1, 1), (12, .iconst 0, 1), (13, .bastore, 1), (14, .iinc 1 1, 3), (17, .goto (-15), 3), (20, .return_, 1)]
def m_c89 : List (Nat × Instr × Nat) := [(0, .aload_n 0, 1), (1, .getfield 40, 3), (4, .aload_n 0, 1), (5, .getfield 148, 3), (8, .aaload, 1), (9, .aload_n 0, 1), (10, .getfield 33, 3), (13, .invokevirtual 151, 3), (16, .aload_n 0, 1), (17, .aload_n 0, 1), (18, .getfield 148, 3), (21, .iconst 1, 1), (22, .iadd, 1), (23, .bipush 10, 2), (25, .irem, 1), (26, .putfield 148, 3), (29, .aload_n 0, 1), (30, .aload_n 0, 1), (31, .getfield 93, 3), (34, .iconst 1, 1), (35, .iadd, 1), (36, .bipush 10, 2), (38, .invokestatic 253, 3), (41, .putfield 93, 3), (44, .return_, 1)]
def m_c90 : List (Nat × Instr × Nat) := [(0, .iload_n 2, 1), (1, .iconst 4, 1), (2, .idiv, 1), (3, .istore_n 3, 1), (4, .aload_n 0, 1), (5, .getfield 33, 3), (8, .iload_n 3, 1), (9, .invokevirtual 109, 3), (12, .ifCond .gt 5, 3), (15, .iconst 1, 1), (16, .ireturn, 1), (17, .aload_n 0, 1), (18, .iload_n 1, 1), (19, .iload_n 2, 1), (20, .invokevirtual 258, 3), (23, .ifCond .ne 5, 3), (26, .iconst 2, 1), (27, .ireturn, 1), (28, .aload_n 0, 1), (29, .iload_n 1, 1), (30, .iload_n 2, 1), (31, .invokevirtual 261, 3), (34, .ifCond .ne 5, 3), (37, .iconst 3, 1), (38, .ireturn, 1), (39, .aload_n 0, 1), (40, .getfield 33, 3), (43, .aload_n 0, 1), (44, .getfield 23, 3), (47, .aload_n 0, 1), (48, .getfield 23, 3), (51, .getfield 103, 3), (54, .iload_n 3, 1), (55, .iaload, 1), (56, .invokevirtual 178, 3), (59, .aload_n 0, 1), (60, .getfield 23, 3), (63, .getfield 241, 3), (66, .if_icmp .lt 7, 3), (69, .iconst 4, 1), (70, .goto 4, 3), (73, .iconst 0, 1), (74, .ireturn, 1)]
def m_c91 : List (Nat × Instr × Nat) := [(0, .iconst 0, 1), (1, .istore_n 3, 1), (2, .iload_n 3, 1), (3, .iconst 4, 1), (4, .if_icmp .ge 79, 3), (7, .aload_n 0, 1), (8, .getfield 23, 3), (11, .iload_n 1, 1), (12, .iload_n 3, 1), (13, .invokevirtual 264, 3), (16, .istore 4, 2), (18, .iload 4, 2), (20, .ifCond .lt 57, 3), (23, .iload 4, 2), (25, .bipush 6, 2), (27, .if_icmp .ge 50, 3), (30, .aload_n 0, 1), (31, .getfield 33, 3), (34, .iload 4, 2), (36, .invokevirtual 126, 3), (39, .ifCond .ne 38, 3), (42, .aload_n 0, 1), (43, .getfield 23, 3), (46, .aload_n 0, 1), (47, .getfield 33, 3), (50, .getfield 135, 3), (53, .iload 4, 2), (55, .iaload, 1), (56, .iload_n 3, 1), (57, .invokestatic 267, 3), (60, .invokevirtual 113, 3), (63, .aload_n 0, 1), (64, .getfield 23, 3), (67, .iload_n 2, 1), (68, .iload_n 3, 1), (69, .invokevirtual 113, 3), (72, .if_icmp .eq 5, 3), (75, .iconst 0, 1), (76, .ireturn, 1), (77, .iinc 3 1, 3), (80, .goto (-78), 3), (83, .iconst 1, 1), (84, .ireturn, 1)]
def m_c92 : List (Nat × Instr × Nat) := [(0, .aload_n 0, 1), (1, .getfield 23, 3), (4, .getfield 238, 3), (7, .bipush (-9), 2), (9, .if_icmp .ne 5, 3), (12, .iconst 1, 1), (13, .ireturn, 1), (14, .iconst 0, 1), (15, .istore_n 3, 1), (16, .iload_n 3, 1), (17, .iconst 4, 1), (18, .if_icmp .ge 42, 3), (21, .aload_n 0, 1), (22, .getfield 23, 3), (25, .iload_n 1, 1), (26, .iload_n 3, 1), (27, .invokevirtual 264, 3), (30, .ifCond .ge 24, 3), (33, .aload_n 0, 1), (34, .getfield 23, 3), (37, .iload_n 2, 1), (38, .iload_n 3, 1), (39, .invokevirtual 113, 3), (42, .aload_n 0, 1), (43, .getfield 23, 3), (46, .getfield 238, 3), (49, .if_icmp .eq 5, 3), (52, .iconst 0, 1), (53, .ireturn, 1), (54, .iinc 3 1, 3), (57, .goto (-41), 3), (60, .iconst 1, 1), (61, .ireturn, 1)]
def m_c93 : List (Nat × Instr × Nat) := [(0, .aload_n 0, 1), (1, .getfield 54, 3), (4, .aload_n 0, 1), (5, .getfield 23, 3), (8, .aload_n 1, 1), (9, .invokevirtual 155, 3), (12, .aload_n 0, 1), (13, .getfield 54, 3), (16, .aload_n 0, 1), (17, .getfield 23, 3), (20, .aload_n 1, 1), (21, .invokevirtual 158, 3), (24, .aload_n 0, 1), (25, .getfield 61, 3), (28, .aload_n 0, 1), (29, .getfield 23, 3), (32, .aload_n 1, 1), (33, .aload_n 0, 1), (34, .getfield 54, 3), (37, .getfield 161, 3), (40, .iload_n 2, 1), (41, .invokevirtual 270, 3), (44, .ireturn, 1)]
def m_c94 : List (Nat × Instr × Nat) := [(0, .aload_n 0, 1), (1, .getfield 54, 3), (4, .aload_n 0, 1), (5, .getfield 23, 3), (8, .aload_n 0, 1), (9, .getfield 33, 3), (12, .invokevirtual 155, 3), (15, .aload_n 0, 1), (16, .getfield 54, 3), (19, .getfield 161, 3), (22, .iload_n 1, 1), (23, .dup2, 1), (24, .iaload, 1), (25, .iconst 1, 1), (26, .aload_n 0, 1), (27, .getfield 72, 3), (30, .iload_n 1, 1), (31, .iaload, 1), (32, .ishl, 1), (33, .iconst (-1), 1), (34, .ixor, 1), (35, .iand, 1), (36, .iastore, 1), (37, .aload_n 0, 1), (38, .getfield 54, 3), (41, .aload_n 0, 1), (42, .getfield 23, 3), (45, .aload_n 0, 1), (46, .getfield 33, 3), (49, .invokevirtual 158, 3), (52, .aload_n 0, 1), (53, .getfield 61, 3), (56, .aload_n 0, 1), (57, .getfield 23, 3), (60, .aload_n 0, 1), (61, .getfield 33, 3), (64, .aload_n 0, 1), (65, .getfield 54, 3), (68, .getfield 161, 3), (71, .iconst 1, 1), (72, .invokevirtual 270, 3), (75, .iconst 1, 1), (76, .if_icmp .ge 5, 3), (79, .iload_n 2, 1), (80, .ireturn, 1), (81, .iload_n 2, 1), (82, .istore_n 3, 1), (83, .iconst 0, 1), (84, .istore 4, 2), (86, .iload 4, 2), (88, .bipush 6, 2), (90, .if_icmp .ge 38, 3), (93, .aload_n 0, 1), (94, .getfield 61, 3), (97, .getfield 186, 3), (100, .iload 4, 2), (102, .iaload, 1), (103, .aload_n 0, 1), (104, .getfield 72, 3), (107, .iload 4, 2), (109, .iaload, 1), (110, .if_icmp .eq 12, 3), (113, .iload_n 3, 1), (114, .iconst 1, 1), (115, .iload 4, 2), (117, .ishl, 1), (118, .iconst (-1), 1), (119, .ixor, 1), (120, .iand, 1), (121, .istore_n 3, 1), (122, .iinc 4 1, 3), (125, .goto (-39), 3), (128, .iload_n 3, 1), (129, .ireturn, 1)]
def m_c95 : List (Nat × Instr × Nat) := [(0, .iconst 0, 1), (1, .istore_n 2, 1), (2, .iconst 0, 1), (3, .istore_n 3, 1), (4, .iload_n 3, 1), (5, .bipush 24, 2), (7, .if_icmp .ge 28, 3), (10, .iload_n 0, 1), (11, .iload_n 3, 1), (12, .ishr, 1), (13, .iconst 1, 1), (14, .iand, 1), (15, .iconst 1, 1), (16, .if_icmp .ne 13, 3), (19, .iload_n 2, 1), (20, .iload_n 1, 1), (21, .if_icmp .ne 5, 3), (24, .iload_n 3, 1), (25, .ireturn, 1), (26, .iinc 2 1, 3), (29, .iinc 3 1, 3), (32, .goto (-28), 3), (35, .bipush (-9), 2), (37, .ireturn, 1)]
def m_c96 : List (Nat × Instr × Nat) := [(0, .iload_n 0, 1), (1, .iconst 2, 1), (2, .iadd, 1), (3, .iconst 4, 1), (4, .irem, 1), (5, .ireturn, 1)]
def m_c97 : List (Nat × Instr × Nat) := [(0, .iload_n 0, 1), (1, .iload_n 1, 1), (2, .if_icmp .lt 12, 3), (5, .iload_n 0, 1), (6, .iload_n 2, 1), (7, .if_icmp .gt 7, 3), (10, .iconst 1, 1), (11, .goto 4, 3), (14, .iconst 0, 1), (15, .ireturn, 1)]
def m_c98 : List (Nat × Instr × Nat) := [(0, .aload_n 0, 1), (1, .invokespecial 1, 3), (4, .aload_n 0, 1), (5, .bipush 6, 2), (7, .newarray .int, 2), (9, .putfield 7, 3), (12, .aload_n 0, 1), (13, .bipush 30, 2), (15, .newarray .int, 2), (17, .putfield 13, 3), (20, .aload_n 0, 1), (21, .bipush 15, 2), (23, .newarray .int, 2), (25, .putfield 16, 3), (28, .aload_n 0, 1), (29, .sipush 150, 3), (32, .newarray .int, 2), (34, .putfield 19, 3), (37, .aload_n 0, 1), (38, .iconst 2, 1), (39, .newarray .boolean, 2), (41, .putfield 22, 3), (44, .aload_n 0, 1), (45, .bipush 30, 2), (47, .newarray .int, 2), (49, .putfield 26, 3), (52, .aload_n 0, 1), (53, .bipush 6, 2), (55, .newarray .int, 2), (57, .putfield 29, 3), (60, .aload_n 0, 1), (61, .bipush 30, 2), (63, .newarray .int, 2), (65, .putfield 32, 3), (68, .aload_n 0, 1), (69, .bipush 6, 2), (71, .newarray .int, 2), (73, .putfield 35, 3), (76, .aload_n 0, 1), (77, .bipush 120, 2), (79, .newarray .int, 2), (81, .putfield 38, 3), (84, .aload_n 0, 1), (85, .bipush 15, 2), (87, .newarray .int, 2), (89, .putfield 41, 3), (92, .aload_n 0, 1), (93, .bipush 9, 2), (95, .newarray .int, 2), (97, .putfield 44, 3), (100, .aload_n 0, 1), (101, .bipush 9, 2), (103, .newarray .int, 2), (105, .putfield 47, 3), (108, .aload_n 0, 1), (109, .bipush 9, 2), (111, .newarray .int, 2), (113, .putfield 50, 3), (116, .aload_n 0, 1), (117, .bipush 9, 2), (119, .newarray .int, 2), (121, .putfield 53, 3), (124, .aload_n 0, 1), (125, .sipush 625, 3), (128, .newarray .int, 2), (130, .putfield 56, 3), (133, .aload_n 0, 1), (134, .sipush 625, 3), (137, .newarray .int, 2), (139, .putfield 59, 3), (142, .aload_n 0, 1), (143, .sipush 1875, 3), (146, .newarray .int, 2), (148, .putfield 62, 3), (151, .aload_n 0, 1), (152, .invokevirtual 65, 3), (155, .aload_n 0, 1), (156, .invokevirtual 68, 3), (159, .return_, 1)]
def m_c99 : List (Nat × Instr × Nat) := [(0, .aload_n 0, 1), (1, .iconst 0, 1), (2, .putfield 71, 3), (5, .aload_n 0, 1), (6, .getfield 29, 3), (9, .iconst 0, 1), (10, .iconst 2, 1), (11, .iastore, 1), (12, .aload_n 0, 1), (13, .getfield 29, 3), (16, .iconst 1, 1), (17, .iconst 2, 1), (18, .iastore, 1), (19, .aload_n 0, 1), (20, .getfield 29, 3), (23, .iconst 2, 1), (24, .bipush (-9), 2), (26, .iastore, 1), (27, .aload_n 0, 1), (28, .getfield 29, 3), (31, .iconst 3, 1), (32, .bipush 9, 2), (34, .iastore, 1), (35, .aload_n 0, 1), (36, .getfield 29, 3), (39, .iconst 4, 1), (40, .iconst 4, 1), (41, .iastore, 1), (42, .aload_n 0, 1), (43, .getfield 29, 3), (46, .iconst 5, 1), (47, .iconst 1, 1), (48, .iastore, 1), (49, .return_, 1)]
def m_c100 : List (Nat × Instr × Nat) := [(0, .aload_n 0, 1), (1, .aload_n 0, 1), (2, .getfield 71, 3), (5, .putfield 75, 3), (8, .iconst 0, 1), (9, .istore_n 1, 1), (10, .iload_n 1, 1), (11, .bipush 6, 2), (13, .if_icmp .ge 21, 3), (16, .aload_n 0, 1), (17, .getfield 7, 3), (20, .iload_n 1, 1), (21, .aload_n 0, 1), (22, .getfield 29, 3), (25, .iload_n 1, 1), (26, .iaload, 1), (27, .iastore, 1), (28, .iinc 1 1, 3), (31, .goto (-21), 3), (34, .iconst 0, 1), (35, .istore_n 1, 1), (36, .iload_n 1, 1), (37, .bipush 30, 2), (39, .if_icmp .ge 21, 3), (42, .aload_n 0, 1), (43, .getfield 13, 3), (46, .iload_n 1, 1), (47, .aload_n 0, 1), (48, .getfield 32, 3), (51, .iload_n 1, 1), (52, .iaload, 1), (53, .iastore, 1), (54, .iinc 1 1, 3), (57, .goto (-21), 3), (60, .iconst 0, 1), (61, .istore_n 1, 1), (62, .iload_n 1, 1), (63, .bipush 9, 2), (65, .if_icmp .ge 17, 3), (68, .aload_n 0, 1), (69, .getfield 16, 3), (72, .iload_n 1, 1), (73, .bipush (-9), 2), (75, .iastore, 1), (76, .iinc 1 1, 3), (79, .goto (-17), 3), (82, .iconst 0, 1), (83, .istore_n 1, 1), (84, .iload_n 1, 1), (85, .bipush 6, 2), (87, .if_icmp .ge 36, 3), (90, .aload_n 0, 1), (91, .getfield 16, 3), (94, .bipush 9, 2), (96, .iload_n 1, 1), (97, .iadd, 1), (98, .iload_n 1, 1), (99, .aload_n 0, 1), (100, .getfield 75, 3), (103, .if_icmp .ge 12, 3), (106, .aload_n 0, 1), (107, .getfield 35, 3), (110, .iload_n 1, 1), (111, .iaload, 1), (112, .goto 4, 3), (115, .iconst 0, 1), (116, .iastore, 1), (117, .iinc 1 1, 3), (120, .goto (-36), 3), (123, .aload_n 0, 1), (124, .iconst 0, 1), (125, .putfield 78, 3), (128, .aload_n 0, 1), (129, .getfield 22, 3), (132, .iconst 0, 1), (133, .iconst 0, 1), (134, .bastore, 1), (135, .aload_n 0, 1), (136, .getfield 22, 3), (139, .iconst 1, 1), (140, .iconst 0, 1), (141, .bastore, 1), (142, .return_, 1)]
def m_c101 : List (Nat × Instr × Nat) := [(0, .iload_n 1, 1), (1, .iconst 0, 1), (2, .sipush 255, 3), (5, .invokestatic 81, 3), (8, .ifCond .ne 5, 3), (11, .iconst (-1), 1), (12, .ireturn, 1), (13, .aload_n 0, 1), (14, .getfield 85, 3), (17, .bipush 120, 2), (19, .if_icmp .ne 6, 3), (22, .bipush (-3), 2), (24, .ireturn, 1), (25, .aload_n 0, 1), (26, .getfield 38, 3), (29, .aload_n 0, 1), (30, .getfield 85, 3), (33, .iload_n 1, 1), (34, .iastore, 1), (35, .aload_n 0, 1), (36, .dup, 1), (37, .getfield 85, 3), (40, .iconst 1, 1), (41, .iadd, 1), (42, .putfield 85, 3), (45, .aload_n 0, 1), (46, .getfield 85, 3), (49, .ireturn, 1)]
def m_c102 : List (Nat × Instr × Nat) := [(0, .aload_n 0, 1), (1, .getfield 85, 3), (4, .istore_n 1, 1), (5, .aload_n 0, 1), (6, .iconst 0, 1), (7, .putfield 85, 3), (10, .iload_n 1, 1), (11, .ireturn, 1)]
def m_c103 : List (Nat × Instr × Nat) := [(0, .aload_n 0, 1), (1, .getfield 88, 3), (4, .aload_n 0, 1), (5, .getfield 85, 3), (8, .if_icmp .ge 30, 3), (11, .aload_n 0, 1), (12, .getfield 38, 3), (15, .aload_n 0, 1), (16, .getfield 88, 3), (19, .iaload, 1), (20, .bipush 32, 2), (22, .if_icmp .ne 16, 3), (25, .aload_n 0, 1), (26, .dup, 1), (27, .getfield 88, 3), (30, .iconst 1, 1), (31, .iadd, 1), (32, .putfield 88, 3), (35, .goto (-35), 3), (38, .aload_n 0, 1), (39, .getfield 88, 3), (42, .aload_n 0, 1), (43, .getfield 85, 3), (46, .if_icmp .ge 15, 3), (49, .aload_n 0, 1), (50, .getfield 38, 3), (53, .aload_n 0, 1), (54, .getfield 88, 3), (57, .iaload, 1), (58, .goto 4, 3), (61, .iconst (-1), 1), (62, .ireturn, 1)]
def m_c104 : List (Nat × Instr × Nat) := [(0, .aload_n 0, 1), (1, .invokevirtual 91, 3), (4, .istore_n 3, 1), (5, .aload_n 0, 1), (6, .getfield 88, 3), (9, .istore 4, 2), (11, .iconst 0, 1), (12, .istore 5, 2), (14, .iload 4, 2), (16, .aload_n 0, 1), (17, .getfield 85, 3), (20, .if_icmp .ge 56, 3), (23, .aload_n 0, 1), (24, .getfield 38, 3), (27, .iload 4, 2), (29, .iaload, 1), (30, .bipush 48, 2), (32, .bipush 57, 2), (34, .invokestatic 81, 3), (37, .ifCond .eq 39, 3), (40, .iload 5, 2), (42, .bipush 99, 2), (44, .if_icmp .le 8, 3), (47, .iload 5, 2), (49, .goto 19, 3), (52, .bipush 10, 2), (54, .iload 5, 2), (56, .imul, 1), (57, .aload_n 0, 1), (58, .getfield 38, 3), (61, .iload 4, 2), (63, .iaload, 1), (64, .iadd, 1), (65, .bipush 48, 2), (67, .isub, 1), (68, .istore 5, 2), (70, .iinc 4 1, 3), (73, .goto (-59), 3), (76, .iload 4, 2), (78, .aload_n 0, 1), (79, .getfield 88, 3), (82, .if_icmp .le 34, 3), (85, .iload_n 3, 1), (86, .bipush 48, 2), (88, .if_icmp .ne 14, 3), (91, .iload 4, 2), (93, .aload_n 0, 1), (94, .getfield 88, 3), (97, .iconst 1, 1), (98, .iadd, 1), (99, .if_icmp .ne 17, 3), (102, .iload 5, 2), (104, .iload_n 1, 1), (105, .iload_n 2, 1), (106, .invokestatic 81, 3), (109, .ifCond .eq 7, 3), (112, .iconst 1, 1), (113, .goto 4, 3), (116, .iconst 0, 1), (117, .istore 6, 2), (119, .aload_n 0, 1), (120, .iload 6, 2), (122, .ifCond .eq 8, 3), (125, .iload 4, 2), (127, .goto 7, 3), (130, .aload_n 0, 1), (131, .getfield 88, 3), (134, .putfield 88, 3), (137, .aload_n 0, 1), (138, .iload 5, 2), (140, .putfield 95, 3), (143, .iload 6, 2), (145, .ireturn, 1)]
def m_c105 : List (Nat × Instr × Nat) := [(0, .aload_n 0, 1), (1, .getfield 71, 3), (4, .bipush 6, 2), (6, .if_icmp .ne 5, 3), (9, .iconst 0, 1), (10, .ireturn, 1), (11, .aload_n 0, 1), (12, .dup, 1), (13, .getfield 88, 3), (16, .iconst 1, 1), (17, .iadd, 1), (18, .putfield 88, 3), (21, .iconst 0, 1), (22, .istore_n 1, 1), (23, .iload_n 1, 1), (24, .bipush 6, 2), (26, .if_icmp .ge 68, 3), (29, .aload_n 0, 1), (30, .iconst 0, 1), (31, .iload_n 1, 1), (32, .iconst 4, 1), (33, .if_icmp .ne 7, 3), (36, .iconst 5, 1), (37, .goto 5, 3), (40, .bipush 9, 2), (42, .invokevirtual 98, 3), (45, .ifCond .ne 5, 3), (48, .iconst 0, 1), (49, .ireturn, 1), (50, .iload_n 1, 1), (51, .iconst 5, 1), (52, .if_icmp .ge 23, 3), (55, .aload_n 0, 1), (56, .getfield 32, 3), (59, .iconst 5, 1), (60, .aload_n 0, 1), (61, .getfield 71, 3), (64, .imul, 1), (65, .iload_n 1, 1), (66, .iadd, 1), (67, .aload_n 0, 1), (68, .getfield 95, 3), (71, .iastore, 1), (72, .goto 16, 3), (75, .aload_n 0, 1), (76, .getfield 35, 3), (79, .aload_n 0, 1), (80, .getfield 71, 3), (83, .aload_n 0, 1), (84, .getfield 95, 3), (87, .iastore, 1), (88, .iinc 1 1, 3), (91, .goto (-68), 3), (94, .aload_n 0, 1), (95, .dup, 1), (96, .getfield 71, 3), (99, .iconst 1, 1), (100, .iadd, 1), (101, .putfield 71, 3), (104, .iconst 1, 1), (105, .ireturn, 1)]
def m_c106 : List (Nat × Instr × Nat) := [(0, .aload_n 0, 1), (1, .getfield 102, 3), (4, .iload_n 1, 1), (5, .iand, 1), (6, .ifCond .eq 5, 3), (9, .iconst 0, 1), (10, .ireturn, 1), (11, .aload_n 0, 1), (12, .dup, 1), (13, .getfield 102, 3), (16, .iload_n 1, 1), (17, .ior, 1), (18, .putfield 102, 3), (21, .aload_n 0, 1), (22, .dup, 1), (23, .getfield 88, 3), (26, .iconst 1, 1), (27, .iadd, 1), (28, .putfield 88, 3), (31, .aload_n 0, 1), (32, .iload_n 3, 1), (33, .iload 4, 2), (35, .invokevirtual 98, 3), (38, .ifCond .ne 5, 3), (41, .iconst 0, 1), (42, .ireturn, 1), (43, .aload_n 0, 1), (44, .getfield 29, 3), (47, .iload_n 2, 1), (48, .aload_n 0, 1), (49, .getfield 95, 3), (52, .iastore, 1), (53, .iload 5, 2), (55, .ifCond .ne 5, 3), (58, .iconst 1, 1), (59, .ireturn, 1), (60, .aload_n 0, 1), (61, .iconst 1, 1), (62, .iload 5, 2), (64, .invokevirtual 98, 3), (67, .istore 6, 2), (69, .aload_n 0, 1), (70, .getfield 29, 3), (73, .iload_n 2, 1), (74, .iconst 1, 1), (75, .iadd, 1), (76, .aload_n 0, 1), (77, .getfield 95, 3), (80, .iastore, 1), (81, .iload 6, 2), (83, .ireturn, 1)]
def m_c107 : List (Nat × Instr × Nat) := [(0, .aload_n 0, 1), (1, .invokevirtual 91, 3), (4, .lookupswitch 101 #[(101, 67), (107, 52), (109, 78), (115, 89), (119, 57)], 52), (56, .aload_n 0, 1), (57, .invokevirtual 105, 3), (60, .ireturn, 1), (61, .aload_n 0, 1), (62, .iconst 1, 1), (63, .iconst 0, 1), (64, .iconst 1, 1), (65, .iconst 3, 1), (66, .iconst 2, 1), (67, .invokevirtual 109, 3), (70, .ireturn, 1), (71, .aload_n 0, 1), (72, .iconst 2, 1), (73, .iconst 2, 1), (74, .iconst 0, 1), (75, .bipush 9, 2), (77, .iconst 0, 1), (78, .invokevirtual 109, 3), (81, .ireturn, 1), (82, .aload_n 0, 1), (83, .iconst 4, 1), (84, .iconst 3, 1), (85, .iconst 1, 1), (86, .bipush 9, 2), (88, .iconst 0, 1), (89, .invokevirtual 109, 3), (92, .ireturn, 1), (93, .aload_n 0, 1), (94, .bipush 8, 2), (96, .iconst 4, 1), (97, .iconst 1, 1), (98, .bipush 9, 2), (100, .iconst 4, 1), (101, .invokevirtual 109, 3), (104, .ireturn, 1), (105, .iconst 0, 1), (106, .ireturn, 1)]
def m_c108 : List (Nat × Instr × Nat) := [(0, .aload_n 0, 1), (1, .invokevirtual 65, 3), (4, .aload_n 0, 1), (5, .iconst 0, 1), (6, .putfield 102, 3), (9, .aload_n 0, 1), (10, .iconst 0, 1), (11, .putfield 88, 3), (14, .iconst 0, 1), (15, .istore_n 1, 1), (16, .aload_n 0, 1), (17, .invokevirtual 91, 3), (20, .iconst (-1), 1), (21, .if_icmp .eq 43, 3), (24, .aload_n 0, 1), (25, .invokevirtual 113, 3), (28, .ifCond .eq 12, 3), (31, .aload_n 0, 1), (32, .invokevirtual 91, 3), (35, .bipush 59, 2), (37, .if_icmp .eq 11, 3), (40, .bipush (-10), 2), (42, .aload_n 0, 1), (43, .getfield 88, 3), (46, .isub, 1), (47, .ireturn, 1), (48, .aload_n 0, 1), (49, .dup, 1), (50, .getfield 88, 3), (53, .iconst 1, 1), (54, .iadd, 1), (55, .putfield 88, 3), (58, .iinc 1 1, 3), (61, .goto (-45), 3), (64, .aload_n 0, 1), (65, .invokevirtual 68, 3), (68, .aload_n 0, 1), (69, .iconst 0, 1), (70, .putfield 85, 3), (73, .iload_n 1, 1), (74, .ireturn, 1)]
def m_c109 : List (Nat × Instr × Nat) := [(0, .iload_n 1, 1), (1, .iconst 0, 1), (2, .aload_n 0, 1), (3, .getfield 75, 3), (6, .iconst 1, 1), (7, .isub, 1), (8, .invokestatic 81, 3), (11, .ireturn, 1)]
def m_c110 : List (Nat × Instr × Nat) := [(0, .iload_n 1, 1), (1, .iconst 0, 1), (2, .iconst 4, 1), (3, .aload_n 0, 1), (4, .getfield 75, 3), (7, .imul, 1), (8, .iconst 1, 1), (9, .isub, 1), (10, .invokestatic 81, 3), (13, .ireturn, 1)]
def m_c111 : List (Nat × Instr × Nat) := [(0, .aload_n 0, 1), (1, .getfield 7, 3), (4, .iconst 0, 1), (5, .iaload, 1), (6, .aload_n 0, 1), (7, .getfield 7, 3), (10, .iconst 1, 1), (11, .iaload, 1), (12, .imul, 1), (13, .ireturn, 1)]
def m_c112 : List (Nat × Instr × Nat) := [(0, .iload_n 1, 1), (1, .iconst 0, 1), (2, .aload_n 0, 1), (3, .invokevirtual 116, 3), (6, .iconst 1, 1), (7, .isub, 1), (8, .invokestatic 81, 3), (11, .ireturn, 1)]
def m_c113 : List (Nat × Instr × Nat) := [(0, .aload_n 0, 1), (1, .getfield 13, 3), (4, .iconst 5, 1), (5, .iload_n 1, 1), (6, .iconst 4, 1), (7, .idiv, 1), (8, .imul, 1), (9, .iload_n 2, 1), (10, .iload_n 1, 1), (11, .iconst 4, 1), (12, .irem, 1), (13, .isub, 1), (14, .iconst 4, 1), (15, .iadd, 1), (16, .iconst 4, 1), (17, .irem, 1), (18, .iadd, 1), (19, .iaload, 1), (20, .ireturn, 1)]
def m_c114 : List (Nat × Instr × Nat) := [(0, .iload_n 1, 1), (1, .iload_n 1, 1), (2, .iconst 4, 1), (3, .irem, 1), (4, .isub, 1), (5, .istore_n 2, 1), (6, .iload_n 2, 1), (7, .iload_n 1, 1), (8, .if_icmp .ge 59, 3), (11, .iconst 1, 1), (12, .istore_n 3, 1), (13, .iconst 0, 1), (14, .istore 4, 2), (16, .iload 4, 2), (18, .iconst 4, 1), (19, .if_icmp .ge 36, 3), (22, .iload_n 3, 1), (23, .ifCond .eq 24, 3), (26, .aload_n 0, 1), (27, .iload_n 2, 1), (28, .iload 4, 2), (30, .invokevirtual 119, 3), (33, .aload_n 0, 1), (34, .iload_n 1, 1), (35, .iload 4, 2), (37, .invokevirtual 119, 3), (40, .if_icmp .ne 7, 3), (43, .iconst 1, 1), (44, .goto 4, 3), (47, .iconst 0, 1), (48, .istore_n 3, 1), (49, .iinc 4 1, 3), (52, .goto (-36), 3), (55, .iload_n 3, 1), (56, .ifCond .eq 5, 3), (59, .iconst 0, 1), (60, .ireturn, 1), (61, .iinc 2 1, 3), (64, .goto (-58), 3), (67, .iconst 1, 1), (68, .ireturn, 1)]
def m_c115 : List (Nat × Instr × Nat) := [(0, .aload_n 0, 1), (1, .getfield 13, 3), (4, .iconst 5, 1), (5, .iload_n 1, 1), (6, .imul, 1), (7, .iconst 4, 1), (8, .iadd, 1), (9, .iaload, 1), (10, .ireturn, 1)]
def m_c116 : List (Nat × Instr × Nat) := [(0, .iconst 0, 1), (1, .istore_n 1, 1), (2, .iload_n 1, 1), (3, .bipush 15, 2), (5, .if_icmp .ge 21, 3), (8, .aload_n 0, 1), (9, .getfield 41, 3), (12, .iload_n 1, 1), (13, .aload_n 0, 1), (14, .getfield 16, 3), (17, .iload_n 1, 1), (18, .iaload, 1), (19, .iastore, 1), (20, .iinc 1 1, 3), (23, .goto (-21), 3), (26, .return_, 1)]
def m_c117 : List (Nat × Instr × Nat) := [(0, .aload_n 0, 1), (1, .getfield 41, 3), (4, .bipush 9, 2), (6, .iload_n 1, 1), (7, .iadd, 1), (8, .iaload, 1), (9, .istore_n 2, 1), (10, .iconst 0, 1), (11, .istore_n 3, 1), (12, .iload_n 3, 1), (13, .bipush 9, 2), (15, .if_icmp .ge 40, 3), (18, .iload_n 2, 1), (19, .aload_n 0, 1), (20, .getfield 41, 3), (23, .iload_n 3, 1), (24, .iaload, 1), (25, .bipush (-9), 2), (27, .if_icmp .eq 19, 3), (30, .aload_n 0, 1), (31, .getfield 41, 3), (34, .iload_n 3, 1), (35, .iaload, 1), (36, .iconst 4, 1), (37, .idiv, 1), (38, .iload_n 1, 1), (39, .if_icmp .ne 7, 3), (42, .iconst 1, 1), (43, .goto 4, 3), (46, .iconst 0, 1), (47, .isub, 1), (48, .istore_n 2, 1), (49, .iinc 3 1, 3), (52, .goto (-40), 3), (55, .iload_n 2, 1), (56, .ireturn, 1)]
def m_c118 : List (Nat × Instr × Nat) := [(0, .iconst 0, 1), (1, .istore_n 2, 1), (2, .iconst 0, 1), (3, .istore_n 3, 1), (4, .iload_n 3, 1), (5, .bipush 9, 2), (7, .if_icmp .ge 44, 3), (10, .iload_n 2, 1), (11, .aload_n 0, 1), (12, .getfield 41, 3), (15, .iload_n 3, 1), (16, .iaload, 1), (17, .bipush (-9), 2), (19, .if_icmp .eq 23, 3), (22, .aload_n 0, 1), (23, .aload_n 0, 1), (24, .getfield 41, 3), (27, .iload_n 3, 1), (28, .iaload, 1), (29, .iconst 4, 1), (30, .idiv, 1), (31, .invokevirtual 123, 3), (34, .iload_n 1, 1), (35, .if_icmp .ne 7, 3), (38, .iconst 1, 1), (39, .goto 4, 3), (42, .iconst 0, 1), (43, .iadd, 1), (44, .istore_n 2, 1), (45, .iinc 3 1, 3), (48, .goto (-44), 3), (51, .iload_n 2, 1), (52, .ireturn, 1)]
def m_c119 : List (Nat × Instr × Nat) := [(0, .iload_n 1, 1), (1, .aload_n 0, 1), (2, .getfield 7, 3), (5, .iconst 0, 1), (6, .iaload, 1), (7, .irem, 1), (8, .iload_n 2, 1), (9, .iconst 1, 1), (10, .if_icmp .ne 7, 3), (13, .iconst 1, 1), (14, .goto 13, 3), (17, .iload_n 2, 1), (18, .iconst 3, 1), (19, .if_icmp .ne 7, 3), (22, .iconst (-1), 1), (23, .goto 4, 3), (26, .iconst 0, 1), (27, .iadd, 1), (28, .istore_n 3, 1), (29, .iload_n 1, 1), (30, .aload_n 0, 1), (31, .getfield 7, 3), (34, .iconst 0, 1), (35, .iaload, 1), (36, .idiv, 1), (37, .iload_n 2, 1), (38, .ifCond .ne 7, 3), (41, .iconst (-1), 1), (42, .goto 13, 3), (45, .iload_n 2, 1), (46, .iconst 2, 1), (47, .if_icmp .ne 7, 3), (50, .iconst 1, 1), (51, .goto 4, 3), (54, .iconst 0, 1), (55, .iadd, 1), (56, .istore 4, 2), (58, .iload_n 3, 1), (59, .iconst 0, 1), (60, .aload_n 0, 1), (61, .getfield 7, 3), (64, .iconst 0, 1), (65, .iaload, 1), (66, .iconst 1, 1), (67, .isub, 1), (68, .invokestatic 81, 3), (71, .ifCond .eq 34, 3), (74, .iload 4, 2), (76, .iconst 0, 1), (77, .aload_n 0, 1), (78, .getfield 7, 3), (81, .iconst 1, 1), (82, .iaload, 1), (83, .iconst 1, 1), (84, .isub, 1), (85, .invokestatic 81, 3), (88, .ifCond .eq 17, 3), (91, .aload_n 0, 1), (92, .getfield 7, 3), (95, .iconst 0, 1), (96, .iaload, 1), (97, .iload 4, 2), (99, .imul, 1), (100, .iload_n 3, 1), (101, .iadd, 1), (102, .goto 5, 3), (105, .bipush (-9), 2), (107, .ireturn, 1)]
def m_c120 : List (Nat × Instr × Nat) := [(0, .aload_n 0, 1), (1, .iload_n 2, 1), (2, .iconst 4, 1), (3, .idiv, 1), (4, .invokevirtual 127, 3), (7, .ifCond .gt 5, 3), (10, .iconst 1, 1), (11, .ireturn, 1), (12, .iconst 1, 1), (13, .istore_n 3, 1), (14, .iconst 0, 1), (15, .istore 4, 2), (17, .iload 4, 2), (19, .iconst 4, 1), (20, .if_icmp .ge 110, 3), (23, .aload_n 0, 1), (24, .iload_n 1, 1), (25, .iload 4, 2), (27, .invokevirtual 130, 3), (30, .istore 5, 2), (32, .iload 5, 2), (34, .bipush (-9), 2), (36, .if_icmp .eq 44, 3), (39, .aload_n 0, 1), (40, .getfield 41, 3), (43, .iload 5, 2), (45, .iaload, 1), (46, .bipush (-9), 2), (48, .if_icmp .eq 32, 3), (51, .aload_n 0, 1), (52, .aload_n 0, 1), (53, .getfield 41, 3), (56, .iload 5, 2), (58, .iaload, 1), (59, .iload 4, 2), (61, .iconst 2, 1), (62, .iadd, 1), (63, .iconst 4, 1), (64, .irem, 1), (65, .invokevirtual 119, 3), (68, .aload_n 0, 1), (69, .iload_n 2, 1), (70, .iload 4, 2), (72, .invokevirtual 119, 3), (75, .if_icmp .eq 5, 3), (78, .iconst 2, 1), (79, .ireturn, 1), (80, .iload_n 3, 1), (81, .ifCond .eq 41, 3), (84, .iload 5, 2), (86, .bipush (-9), 2), (88, .if_icmp .ne 30, 3), (91, .aload_n 0, 1), (92, .getfield 7, 3), (95, .iconst 2, 1), (96, .iaload, 1), (97, .bipush (-9), 2), (99, .if_icmp .eq 19, 3), (102, .aload_n 0, 1), (103, .iload_n 2, 1), (104, .iload 4, 2), (106, .invokevirtual 119, 3), (109, .aload_n 0, 1), (110, .getfield 7, 3), (113, .iconst 2, 1), (114, .iaload, 1), (115, .if_icmp .ne 7, 3), (118, .iconst 1, 1), (119, .goto 4, 3), (122, .iconst 0, 1), (123, .istore_n 3, 1), (124, .iinc 4 1, 3), (127, .goto (-110), 3), (130, .iload_n 3, 1), (131, .ifCond .ne 7, 3), (134, .iconst 3, 1), (135, .goto 28, 3), (138, .aload_n 0, 1), (139, .aload_n 0, 1), (140, .iload_n 2, 1), (141, .iconst 4, 1), (142, .idiv, 1), (143, .invokevirtual 123, 3), (146, .invokevirtual 133, 3), (149, .aload_n 0, 1), (150, .getfield 7, 3), (153, .iconst 3, 1), (154, .iaload, 1), (155, .if_icmp .lt 7, 3), (158, .iconst 4, 1), (159, .goto 4, 3), (162, .iconst 0, 1), (163, .ireturn, 1)]
def m_c121 : List (Nat × Instr × Nat) := [(0, .aload_n 0, 1), (1, .iload_n 1, 1), (2, .invokevirtual 136, 3), (5, .ifCond .eq 13, 3), (8, .iload_n 2, 1), (9, .iconst 0, 1), (10, .bipush 6, 2), (12, .invokestatic 81, 3), (15, .ifCond .ne 5, 3), (18, .iconst (-1), 1), (19, .ireturn, 1), (20, .aload_n 0, 1), (21, .invokevirtual 140, 3), (24, .iload_n 2, 1), (25, .iconst 5, 1), (26, .if_icmp .ge 16, 3), (29, .aload_n 0, 1), (30, .getfield 13, 3), (33, .iconst 5, 1), (34, .iload_n 1, 1), (35, .imul, 1), (36, .iload_n 2, 1), (37, .iadd, 1), (38, .iaload, 1), (39, .goto 28, 3), (42, .iload_n 2, 1), (43, .iconst 5, 1), (44, .if_icmp .ne 15, 3), (47, .aload_n 0, 1), (48, .getfield 16, 3), (51, .bipush 9, 2), (53, .iload_n 1, 1), (54, .iadd, 1), (55, .iaload, 1), (56, .goto 11, 3), (59, .aload_n 0, 1), (60, .iload_n 1, 1), (61, .invokevirtual 127, 3), (64, .bipush 100, 2), (66, .iadd, 1), (67, .ireturn, 1)]
def m_c122 : List (Nat × Instr × Nat) := [(0, .aload_n 0, 1), (1, .iload_n 1, 1), (2, .invokevirtual 143, 3), (5, .ifCond .eq 12, 3), (8, .iload_n 2, 1), (9, .iconst 0, 1), (10, .iconst 4, 1), (11, .invokestatic 81, 3), (14, .ifCond .ne 5, 3), (17, .iconst (-1), 1), (18, .ireturn, 1), (19, .iload_n 2, 1), (20, .iconst 4, 1), (21, .if_icmp .ge 12, 3), (24, .aload_n 0, 1), (25, .iload_n 1, 1), (26, .iload_n 2, 1), (27, .invokevirtual 119, 3), (30, .goto 16, 3), (33, .aload_n 0, 1), (34, .iload_n 1, 1), (35, .invokevirtual 146, 3), (38, .ifCond .eq 7, 3), (41, .iconst 1, 1), (42, .goto 4, 3), (45, .iconst 0, 1), (46, .ireturn, 1)]
def m_c123 : List (Nat × Instr × Nat) := [(0, .iconst 0, 1), (1, .istore_n 1, 1), (2, .iconst 0, 1), (3, .istore_n 2, 1), (4, .iload_n 2, 1), (5, .aload_n 0, 1), (6, .invokevirtual 116, 3), (9, .if_icmp .ge 28, 3), (12, .iload_n 1, 1), (13, .aload_n 0, 1), (14, .getfield 16, 3), (17, .iload_n 2, 1), (18, .iaload, 1), (19, .bipush (-9), 2), (21, .if_icmp .ne 7, 3), (24, .iconst 1, 1), (25, .goto 4, 3), (28, .iconst 0, 1), (29, .iadd, 1), (30, .istore_n 1, 1), (31, .iinc 2 1, 3), (34, .goto (-30), 3), (37, .iload_n 1, 1), (38, .ireturn, 1)]
def m_c124 : List (Nat × Instr × Nat) := [(0, .aload_n 0, 1), (1, .getfield 78, 3), (4, .bipush 10, 2), (6, .if_icmp .ne 43, 3), (9, .iconst 0, 1), (10, .istore_n 1, 1), (11, .iload_n 1, 1), (12, .sipush 135, 3), (15, .if_icmp .ge 24, 3), (18, .aload_n 0, 1), (19, .getfield 19, 3), (22, .iload_n 1, 1), (23, .aload_n 0, 1), (24, .getfield 19, 3), (27, .iload_n 1, 1), (28, .bipush 15, 2), (30, .iadd, 1), (31, .iaload, 1), (32, .iastore, 1), (33, .iinc 1 1, 3), (36, .goto (-25), 3), (39, .aload_n 0, 1), (40, .dup, 1), (41, .getfield 78, 3), (44, .iconst 1, 1), (45, .isub, 1), (46, .putfield 78, 3), (49, .iconst 0, 1), (50, .istore_n 1, 1), (51, .iload_n 1, 1), (52, .bipush 15, 2), (54, .if_icmp .ge 29, 3), (57, .aload_n 0, 1), (58, .getfield 19, 3), (61, .bipush 15, 2), (63, .aload_n 0, 1), (64, .getfield 78, 3), (67, .imul, 1), (68, .iload_n 1, 1), (69, .iadd, 1), (70, .aload_n 0, 1), (71, .getfield 16, 3), (74, .iload_n 1, 1), (75, .iaload, 1), (76, .iastore, 1), (77, .iinc 1 1, 3), (80, .goto (-29), 3), (83, .aload_n 0, 1), (84, .dup, 1), (85, .getfield 78, 3), (88, .iconst 1, 1), (89, .iadd, 1), (90, .putfield 78, 3), (93, .return_, 1)]
def m_c125 : List (Nat × Instr × Nat) := [(0, .aload_n 0, 1), (1, .iload_n 1, 1), (2, .invokevirtual 149, 3), (5, .ifCond .eq 11, 3), (8, .aload_n 0, 1), (9, .iload_n 2, 1), (10, .invokevirtual 143, 3), (13, .ifCond .ne 5, 3), (16, .iconst (-1), 1), (17, .ireturn, 1), (18, .aload_n 0, 1), (19, .getfield 16, 3), (22, .iload_n 1, 1), (23, .iaload, 1), (24, .bipush (-9), 2), (26, .if_icmp .eq 6, 3), (29, .bipush (-2), 2), (31, .ireturn, 1), (32, .aload_n 0, 1), (33, .invokevirtual 140, 3), (36, .aload_n 0, 1), (37, .iload_n 1, 1), (38, .iload_n 2, 1), (39, .invokevirtual 152, 3), (42, .istore_n 3, 1), (43, .iload_n 3, 1), (44, .ifCond .eq 8, 3), (47, .bipush (-10), 2), (49, .iload_n 3, 1), (50, .isub, 1), (51, .ireturn, 1), (52, .aload_n 0, 1), (53, .invokevirtual 155, 3), (56, .aload_n 0, 1), (57, .getfield 16, 3), (60, .iload_n 1, 1), (61, .iload_n 2, 1), (62, .iastore, 1), (63, .aload_n 0, 1), (64, .invokevirtual 158, 3), (67, .ireturn, 1)]
def m_c126 : List (Nat × Instr × Nat) := [(0, .aload_n 0, 1), (1, .iload_n 1, 1), (2, .invokevirtual 149, 3), (5, .ifCond .ne 5, 3), (8, .iconst (-1), 1), (9, .ireturn, 1), (10, .aload_n 0, 1), (11, .getfield 16, 3), (14, .iload_n 1, 1), (15, .iaload, 1), (16, .istore_n 2, 1), (17, .iload_n 2, 1), (18, .bipush (-9), 2), (20, .if_icmp .ne 6, 3), (23, .bipush (-2), 2), (25, .ireturn, 1), (26, .aload_n 0, 1), (27, .invokevirtual 155, 3), (30, .aload_n 0, 1), (31, .getfield 16, 3), (34, .iload_n 1, 1), (35, .bipush (-9), 2), (37, .iastore, 1), (38, .iload_n 2, 1), (39, .ireturn, 1)]
def m_c127 : List (Nat × Instr × Nat) := [(0, .aload_n 0, 1), (1, .iload_n 1, 1), (2, .invokevirtual 136, 3), (5, .ifCond .eq 13, 3), (8, .iload_n 2, 1), (9, .iconst 0, 1), (10, .bipush 9, 2), (12, .invokestatic 81, 3), (15, .ifCond .ne 5, 3), (18, .iconst (-1), 1), (19, .ireturn, 1), (20, .aload_n 0, 1), (21, .getfield 16, 3), (24, .bipush 9, 2), (26, .iload_n 1, 1), (27, .iadd, 1), (28, .iaload, 1), (29, .istore_n 3, 1), (30, .iload_n 3, 1), (31, .iload_n 2, 1), (32, .if_icmp .ne 6, 3), (35, .bipush (-2), 2), (37, .ireturn, 1), (38, .aload_n 0, 1), (39, .invokevirtual 155, 3), (42, .aload_n 0, 1), (43, .getfield 16, 3), (46, .bipush 9, 2), (48, .iload_n 1, 1), (49, .iadd, 1), (50, .iload_n 2, 1), (51, .iastore, 1), (52, .iload_n 3, 1), (53, .ireturn, 1)]
def m_c128 : List (Nat × Instr × Nat) := [(0, .aload_n 0, 1), (1, .invokevirtual 116, 3), (4, .aload_n 0, 1), (5, .invokevirtual 158, 3), (8, .isub, 1), (9, .istore_n 1, 1), (10, .aload_n 0, 1), (11, .invokevirtual 155, 3), (14, .iconst 0, 1), (15, .istore_n 2, 1), (16, .iload_n 2, 1), (17, .bipush 9, 2), (19, .if_icmp .ge 17, 3), (22, .aload_n 0, 1), (23, .getfield 16, 3), (26, .iload_n 2, 1), (27, .bipush (-9), 2), (29, .iastore, 1), (30, .iinc 2 1, 3), (33, .goto (-17), 3), (36, .iload_n 1, 1), (37, .ireturn, 1)]
def m_c129 : List (Nat × Instr × Nat) := [(0, .aload_n 0, 1), (1, .getfield 78, 3), (4, .ifCond .ne 6, 3), (7, .bipush (-2), 2), (9, .ireturn, 1), (10, .aload_n 0, 1), (11, .dup, 1), (12, .getfield 78, 3), (15, .iconst 1, 1), (16, .isub, 1), (17, .putfield 78, 3), (20, .iconst 0, 1), (21, .istore_n 1, 1), (22, .iload_n 1, 1), (23, .bipush 15, 2), (25, .if_icmp .ge 29, 3), (28, .aload_n 0, 1), (29, .getfield 16, 3), (32, .iload_n 1, 1), (33, .aload_n 0, 1), (34, .getfield 19, 3), (37, .bipush 15, 2), (39, .aload_n 0, 1), (40, .getfield 78, 3), (43, .imul, 1), (44, .iload_n 1, 1), (45, .iadd, 1), (46, .iaload, 1), (47, .iastore, 1), (48, .iinc 1 1, 3), (51, .goto (-29), 3), (54, .aload_n 0, 1), (55, .getfield 78, 3), (58, .ireturn, 1)]
def m_c130 : List (Nat × Instr × Nat) := [(0, .aload_n 0, 1), (1, .iload_n 1, 1), (2, .invokevirtual 149, 3), (5, .ifCond .eq 12, 3), (8, .aload_n 0, 1), (9, .getfield 16, 3), (12, .iload_n 1, 1), (13, .iaload, 1), (14, .goto 4, 3), (17, .iconst (-1), 1), (18, .ireturn, 1)]
def m_c131 : List (Nat × Instr × Nat) := [(0, .aload_n 0, 1), (1, .iload_n 1, 1), (2, .invokevirtual 149, 3), (5, .ifCond .eq 11, 3), (8, .aload_n 0, 1), (9, .iload_n 2, 1), (10, .invokevirtual 143, 3), (13, .ifCond .ne 5, 3), (16, .iconst (-1), 1), (17, .ireturn, 1), (18, .aload_n 0, 1), (19, .getfield 16, 3), (22, .iload_n 1, 1), (23, .iaload, 1), (24, .bipush (-9), 2), (26, .if_icmp .eq 6, 3), (29, .bipush (-2), 2), (31, .ireturn, 1), (32, .aload_n 0, 1), (33, .invokevirtual 140, 3), (36, .aload_n 0, 1), (37, .iload_n 1, 1), (38, .iload_n 2, 1), (39, .invokevirtual 152, 3), (42, .ireturn, 1)]
def m_c132 : List (Nat × Instr × Nat) := [(0, .iconst 0, 1), (1, .istore 4, 2), (3, .iconst 0, 1), (4, .istore 5, 2), (6, .iload 5, 2), (8, .iconst 4, 1), (9, .aload_n 0, 1), (10, .getfield 75, 3), (13, .imul, 1), (14, .if_icmp .ge 47, 3), (17, .iload 4, 2), (19, .ifCond .ne 29, 3), (22, .aload_n 0, 1), (23, .getfield 44, 3), (26, .iload_n 1, 1), (27, .iaload, 1), (28, .iload 5, 2), (30, .ishr, 1), (31, .iconst 1, 1), (32, .iand, 1), (33, .iconst 1, 1), (34, .if_icmp .ne 18, 3), (37, .aload_n 0, 1), (38, .iload 5, 2), (40, .iload_n 2, 1), (41, .invokevirtual 119, 3), (44, .iload_n 3, 1), (45, .if_icmp .ne 7, 3), (48, .iconst 1, 1), (49, .goto 4, 3), (52, .iconst 0, 1), (53, .istore 4, 2), (55, .iinc 5 1, 3), (58, .goto (-52), 3), (61, .iload 4, 2), (63, .ireturn, 1)]
def m_c133 : List (Nat × Instr × Nat) := [(0, .iconst 1, 1), (1, .istore_n 3, 1), (2, .iconst 0, 1), (3, .istore 4, 2), (5, .iload 4, 2), (7, .iconst 4, 1), (8, .if_icmp .ge 69, 3), (11, .aload_n 0, 1), (12, .iload_n 1, 1), (13, .iload 4, 2), (15, .invokevirtual 130, 3), (18, .istore 5, 2), (20, .iload_n 3, 1), (21, .ifCond .eq 48, 3), (24, .iload 5, 2), (26, .bipush (-9), 2), (28, .if_icmp .eq 37, 3), (31, .aload_n 0, 1), (32, .getfield 16, 3), (35, .iload 5, 2), (37, .iaload, 1), (38, .bipush (-9), 2), (40, .if_icmp .ne 25, 3), (43, .aload_n 0, 1), (44, .iload 5, 2), (46, .iload 4, 2), (48, .iconst 2, 1), (49, .iadd, 1), (50, .iconst 4, 1), (51, .irem, 1), (52, .aload_n 0, 1), (53, .iload_n 2, 1), (54, .iload 4, 2), (56, .invokevirtual 119, 3), (59, .invokevirtual 161, 3), (62, .ifCond .eq 7, 3), (65, .iconst 1, 1), (66, .goto 4, 3), (69, .iconst 0, 1), (70, .istore_n 3, 1), (71, .iinc 4 1, 3), (74, .goto (-69), 3), (77, .iload_n 3, 1), (78, .ireturn, 1)]
def m_c134 : List (Nat × Instr × Nat) := [(0, .aload_n 0, 1), (1, .invokevirtual 140, 3), (4, .iconst 0, 1), (5, .istore_n 1, 1), (6, .iload_n 1, 1), (7, .aload_n 0, 1), (8, .invokevirtual 116, 3), (11, .if_icmp .ge 78, 3), (14, .aload_n 0, 1), (15, .getfield 44, 3), (18, .iload_n 1, 1), (19, .iconst 0, 1), (20, .iastore, 1), (21, .iconst 0, 1), (22, .istore_n 2, 1), (23, .iload_n 2, 1), (24, .iconst 4, 1), (25, .aload_n 0, 1), (26, .getfield 75, 3), (29, .imul, 1), (30, .if_icmp .ge 53, 3), (33, .aload_n 0, 1), (34, .getfield 16, 3), (37, .iload_n 1, 1), (38, .iaload, 1), (39, .bipush (-9), 2), (41, .if_icmp .ne 42, 3), (44, .aload_n 0, 1), (45, .getfield 44, 3), (48, .iload_n 1, 1), (49, .dup2, 1), (50, .iaload, 1), (51, .aload_n 0, 1), (52, .iload_n 2, 1), (53, .invokevirtual 146, 3), (56, .ifCond .eq 18, 3), (59, .aload_n 0, 1), (60, .iload_n 1, 1), (61, .iload_n 2, 1), (62, .invokevirtual 152, 3), (65, .ifCond .ne 9, 3), (68, .iconst 1, 1), (69, .iload_n 2, 1), (70, .ishl, 1), (71, .goto 4, 3), (74, .iconst 0, 1), (75, .ior, 1), (76, .iastore, 1), (77, .iinc 2 1, 3), (80, .goto (-57), 3), (83, .iinc 1 1, 3), (86, .goto (-80), 3), (89, .iconst 1, 1), (90, .istore_n 1, 1), (91, .iload_n 1, 1), (92, .ifCond .eq 79, 3), (95, .iconst 0, 1), (96, .istore_n 1, 1), (97, .iconst 0, 1), (98, .istore_n 2, 1), (99, .iload_n 2, 1), (100, .aload_n 0, 1), (101, .invokevirtual 116, 3), (104, .if_icmp .ge 64, 3), (107, .iconst 0, 1), (108, .istore_n 3, 1), (109, .iload_n 3, 1), (110, .iconst 4, 1), (111, .aload_n 0, 1), (112, .getfield 75, 3), (115, .imul, 1), (116, .if_icmp .ge 46, 3), (119, .aload_n 0, 1), (120, .getfield 44, 3), (123, .iload_n 2, 1), (124, .iaload, 1), (125, .iload_n 3, 1), (126, .ishr, 1), (127, .iconst 1, 1), (128, .iand, 1), (129, .iconst 1, 1), (130, .if_icmp .ne 26, 3), (133, .aload_n 0, 1), (134, .iload_n 2, 1), (135, .iload_n 3, 1), (136, .invokevirtual 164, 3), (139, .ifCond .ne 17, 3), (142, .aload_n 0, 1), (143, .getfield 44, 3), (146, .iload_n 2, 1), (147, .dup2, 1), (148, .iaload, 1), (149, .iconst 1, 1), (150, .iload_n 3, 1), (151, .ishl, 1), (152, .ixor, 1), (153, .iastore, 1), (154, .iconst 1, 1), (155, .istore_n 1, 1), (156, .iinc 3 1, 3), (159, .goto (-50), 3), (162, .iinc 2 1, 3), (165, .goto (-66), 3), (168, .goto (-77), 3), (171, .return_, 1)]
def m_c135 : List (Nat × Instr × Nat) := [(0, .iconst 0, 1), (1, .istore_n 1, 1), (2, .iconst 0, 1), (3, .istore_n 2, 1), (4, .iload_n 2, 1), (5, .bipush 24, 2), (7, .if_icmp .ge 17, 3), (10, .iload_n 1, 1), (11, .iload_n 0, 1), (12, .iload_n 2, 1), (13, .ishr, 1), (14, .iconst 1, 1), (15, .iand, 1), (16, .iadd, 1), (17, .istore_n 1, 1), (18, .iinc 2 1, 3), (21, .goto (-17), 3), (24, .iload_n 1, 1), (25, .ireturn, 1)]
def m_c136 : List (Nat × Instr × Nat) := [(0, .aload_n 0, 1), (1, .iload_n 1, 1), (2, .invokevirtual 149, 3), (5, .ifCond .eq 8, 3), (8, .iload_n 2, 1), (9, .iconst (-1), 1), (10, .if_icmp .ge 5, 3), (13, .iconst (-1), 1), (14, .ireturn, 1), (15, .aload_n 0, 1), (16, .getfield 16, 3), (19, .iload_n 1, 1), (20, .iaload, 1), (21, .bipush (-9), 2), (23, .if_icmp .eq 6, 3), (26, .bipush (-2), 2), (28, .ireturn, 1), (29, .aload_n 0, 1), (30, .invokevirtual 167, 3), (33, .iload_n 2, 1), (34, .iconst (-1), 1), (35, .if_icmp .ne 13, 3), (38, .aload_n 0, 1), (39, .getfield 44, 3), (42, .iload_n 1, 1), (43, .iaload, 1), (44, .invokestatic 170, 3), (47, .ireturn, 1), (48, .iload_n 2, 1), (49, .istore_n 3, 1), (50, .iconst 0, 1), (51, .istore 4, 2), (53, .iload 4, 2), (55, .iconst 4, 1), (56, .aload_n 0, 1), (57, .getfield 75, 3), (60, .imul, 1), (61, .if_icmp .ge 34, 3), (64, .aload_n 0, 1), (65, .getfield 44, 3), (68, .iload_n 1, 1), (69, .iaload, 1), (70, .iload 4, 2), (72, .ishr, 1), (73, .iconst 1, 1), (74, .iand, 1), (75, .iconst 1, 1), (76, .if_icmp .ne 13, 3), (79, .iload_n 3, 1), (80, .ifCond .ne 6, 3), (83, .iload 4, 2), (85, .ireturn, 1), (86, .iinc 3 (-1), 3), (89, .iinc 4 1, 3), (92, .goto (-39), 3), (95, .bipush (-9), 2), (97, .ireturn, 1)]
def m_c137 : List (Nat × Instr × Nat) := [(0, .iload_n 1, 1), (1, .istore_n 2, 1), (2, .iconst 0, 1), (3, .istore_n 3, 1), (4, .iload_n 3, 1), (5, .aload_n 0, 1), (6, .getfield 75, 3), (9, .if_icmp .ge 81, 3), (12, .iconst 1, 1), (13, .istore 4, 2), (15, .iconst 0, 1), (16, .istore 5, 2), (18, .iload 5, 2), (20, .iload_n 3, 1), (21, .if_icmp .ge 35, 3), (24, .iload 4, 2), (26, .ifCond .eq 21, 3), (29, .aload_n 0, 1), (30, .iload 5, 2), (32, .invokevirtual 123, 3), (35, .aload_n 0, 1), (36, .iload_n 3, 1), (37, .invokevirtual 123, 3), (40, .if_icmp .eq 7, 3), (43, .iconst 1, 1), (44, .goto 4, 3), (47, .iconst 0, 1), (48, .istore 4, 2), (50, .iinc 5 1, 3), (53, .goto (-35), 3), (56, .iload 4, 2), (58, .ifCond .eq 13, 3), (61, .iload_n 2, 1), (62, .ifCond .ne 9, 3), (65, .aload_n 0, 1), (66, .iload_n 3, 1), (67, .invokevirtual 123, 3), (70, .ireturn, 1), (71, .iload_n 2, 1), (72, .iload 4, 2), (74, .ifCond .eq 7, 3), (77, .iconst 1, 1), (78, .goto 4, 3), (81, .iconst 0, 1), (82, .isub, 1), (83, .istore_n 2, 1), (84, .iinc 3 1, 3), (87, .goto (-83), 3), (90, .bipush (-9), 2), (92, .ireturn, 1)]
def m_c138 : List (Nat × Instr × Nat) := [(0, .iload_n 1, 1), (1, .ifCond .lt 12, 3), (4, .iload_n 2, 1), (5, .iconst 0, 1), (6, .iconst 2, 1), (7, .invokestatic 81, 3), (10, .ifCond .ne 5, 3), (13, .iconst (-1), 1), (14, .ireturn, 1), (15, .aload_n 0, 1), (16, .iload_n 1, 1), (17, .invokevirtual 173, 3), (20, .istore_n 3, 1), (21, .iload_n 3, 1), (22, .bipush (-9), 2), (24, .if_icmp .eq 7, 3), (27, .iload_n 2, 1), (28, .ifCond .ne 5, 3), (31, .iload_n 3, 1), (32, .ireturn, 1), (33, .aload_n 0, 1), (34, .invokevirtual 140, 3), (37, .iconst 0, 1), (38, .istore 4, 2), (40, .iconst 0, 1), (41, .istore 5, 2), (43, .iload 5, 2), (45, .aload_n 0, 1), (46, .getfield 75, 3), (49, .if_icmp .ge 29, 3), (52, .iload 4, 2), (54, .aload_n 0, 1), (55, .iload 5, 2), (57, .invokevirtual 123, 3), (60, .iload_n 3, 1), (61, .if_icmp .ne 7, 3), (64, .iconst 1, 1), (65, .goto 4, 3), (68, .iconst 0, 1), (69, .iadd, 1), (70, .istore 4, 2), (72, .iinc 5 1, 3), (75, .goto (-32), 3), (78, .iload_n 2, 1), (79, .iconst 1, 1), (80, .if_icmp .ne 8, 3), (83, .iload 4, 2), (85, .goto 8, 3), (88, .aload_n 0, 1), (89, .iload_n 3, 1), (90, .invokevirtual 133, 3), (93, .ireturn, 1)]
def m_c139 : List (Nat × Instr × Nat) := [(0, .aload_n 0, 1), (1, .iconst 0, 1), (2, .putfield 176, 3), (5, .iconst 0, 1), (6, .istore_n 1, 1), (7, .iload_n 1, 1), (8, .aload_n 0, 1), (9, .invokevirtual 116, 3), (12, .if_icmp .ge 40, 3), (15, .aload_n 0, 1), (16, .getfield 41, 3), (19, .iload_n 1, 1), (20, .iaload, 1), (21, .bipush (-9), 2), (23, .if_icmp .ne 23, 3), (26, .aload_n 0, 1), (27, .getfield 47, 3), (30, .aload_n 0, 1), (31, .getfield 176, 3), (34, .iload_n 1, 1), (35, .iastore, 1), (36, .aload_n 0, 1), (37, .dup, 1), (38, .getfield 176, 3), (41, .iconst 1, 1), (42, .iadd, 1), (43, .putfield 176, 3), (46, .iinc 1 1, 3), (49, .goto (-42), 3), (52, .aload_n 0, 1), (53, .iconst 0, 1), (54, .putfield 179, 3), (57, .aload_n 0, 1), (58, .getfield 50, 3), (61, .iconst 0, 1), (62, .iconst (-1), 1), (63, .iastore, 1), (64, .aload_n 0, 1), (65, .iconst 0, 1), (66, .putfield 182, 3), (69, .aload_n 0, 1), (70, .bipush (-9), 2), (72, .putfield 186, 3), (75, .aload_n 0, 1), (76, .bipush (-9), 2), (78, .putfield 189, 3), (81, .return_, 1)]
def m_c140 : List (Nat × Instr × Nat) := [(0, .aload_n 0, 1), (1, .iload_n 2, 1), (2, .invokevirtual 146, 3), (5, .ifCond .eq 32, 3), (8, .iload_n 1, 1), (9, .aload_n 0, 1), (10, .getfield 186, 3), (13, .if_icmp .ne 11, 3), (16, .iload_n 2, 1), (17, .aload_n 0, 1), (18, .getfield 189, 3), (21, .if_icmp .eq 16, 3), (24, .aload_n 0, 1), (25, .iload_n 1, 1), (26, .iload_n 2, 1), (27, .invokevirtual 152, 3), (30, .ifCond .ne 7, 3), (33, .iconst 1, 1), (34, .goto 4, 3), (37, .iconst 0, 1), (38, .ireturn, 1)]
def m_c141 : List (Nat × Instr × Nat) := [(0, .aload_n 0, 1), (1, .dup, 1), (2, .getfield 179, 3), (5, .aload_n 0, 1), (6, .getfield 182, 3), (9, .ifCond .eq 7, 3), (12, .iconst 1, 1), (13, .goto 4, 3), (16, .iconst 0, 1), (17, .isub, 1), (18, .putfield 179, 3), (21, .aload_n 0, 1), (22, .iconst 0, 1), (23, .putfield 182, 3), (26, .aload_n 0, 1), (27, .getfield 179, 3), (30, .ifCond .lt 158, 3), (33, .aload_n 0, 1), (34, .getfield 182, 3), (37, .ifCond .ne 151, 3), (40, .aload_n 0, 1), (41, .getfield 179, 3), (44, .aload_n 0, 1), (45, .getfield 176, 3), (48, .if_icmp .ne 11, 3), (51, .aload_n 0, 1), (52, .iconst 1, 1), (53, .putfield 182, 3), (56, .goto (-30), 3), (59, .aload_n 0, 1), (60, .getfield 47, 3), (63, .aload_n 0, 1), (64, .getfield 179, 3), (67, .iaload, 1), (68, .istore_n 1, 1), (69, .aload_n 0, 1), (70, .getfield 41, 3), (73, .iload_n 1, 1), (74, .bipush (-9), 2), (76, .iastore, 1), (77, .aload_n 0, 1), (78, .getfield 50, 3), (81, .aload_n 0, 1), (82, .getfield 179, 3), (85, .iaload, 1), (86, .iconst 1, 1), (87, .iadd, 1), (88, .istore_n 2, 1), (89, .iload_n 2, 1), (90, .iconst 4, 1), (91, .aload_n 0, 1), (92, .getfield 75, 3), (95, .imul, 1), (96, .if_icmp .ge 18, 3), (99, .aload_n 0, 1), (100, .iload_n 1, 1), (101, .iload_n 2, 1), (102, .invokevirtual 192, 3), (105, .ifCond .ne 9, 3), (108, .iinc 2 1, 3), (111, .goto (-22), 3), (114, .iload_n 2, 1), (115, .iconst 4, 1), (116, .aload_n 0, 1), (117, .getfield 75, 3), (120, .imul, 1), (121, .if_icmp .ne 16, 3), (124, .aload_n 0, 1), (125, .dup, 1), (126, .getfield 179, 3), (129, .iconst 1, 1), (130, .isub, 1), (131, .putfield 179, 3), (134, .goto 51, 3), (137, .aload_n 0, 1), (138, .getfield 50, 3), (141, .aload_n 0, 1), (142, .getfield 179, 3), (145, .iload_n 2, 1), (146, .iastore, 1), (147, .aload_n 0, 1), (148, .getfield 41, 3), (151, .iload_n 1, 1), (152, .iload_n 2, 1), (153, .iastore, 1), (154, .aload_n 0, 1), (155, .dup, 1), (156, .getfield 179, 3), (159, .iconst 1, 1), (160, .iadd, 1), (161, .putfield 179, 3), (164, .aload_n 0, 1), (165, .getfield 179, 3), (168, .aload_n 0, 1), (169, .getfield 176, 3), (172, .if_icmp .ge 13, 3), (175, .aload_n 0, 1), (176, .getfield 50, 3), (179, .aload_n 0, 1), (180, .getfield 179, 3), (183, .iconst (-1), 1), (184, .iastore, 1), (185, .goto (-159), 3), (188, .aload_n 0, 1), (189, .getfield 182, 3), (192, .ireturn, 1)]
def m_c142 : List (Nat × Instr × Nat) := [(0, .iload_n 1, 1), (1, .iconst 1, 1), (2, .sipush 300, 3), (5, .invokestatic 81, 3), (8, .ifCond .ne 5, 3), (11, .iconst (-1), 1), (12, .ireturn, 1), (13, .aload_n 0, 1), (14, .invokevirtual 140, 3), (17, .aload_n 0, 1), (18, .invokevirtual 195, 3), (21, .iconst 0, 1), (22, .istore_n 2, 1), (23, .iload_n 2, 1), (24, .iload_n 1, 1), (25, .if_icmp .ge 16, 3), (28, .aload_n 0, 1), (29, .invokevirtual 198, 3), (32, .ifCond .eq 9, 3), (35, .iinc 2 1, 3), (38, .goto (-15), 3), (41, .iload_n 2, 1), (42, .ireturn, 1)]
def m_c143 : List (Nat × Instr × Nat) := [(0, .iload_n 1, 1), (1, .iconst 0, 1), (2, .sipush 299, 3), (5, .invokestatic 81, 3), (8, .ifCond .eq 11, 3), (11, .aload_n 0, 1), (12, .iload_n 2, 1), (13, .invokevirtual 149, 3), (16, .ifCond .ne 5, 3), (19, .iconst (-1), 1), (20, .ireturn, 1), (21, .aload_n 0, 1), (22, .invokevirtual 140, 3), (25, .aload_n 0, 1), (26, .invokevirtual 195, 3), (29, .iconst 0, 1), (30, .istore_n 3, 1), (31, .iload_n 3, 1), (32, .iload_n 1, 1), (33, .if_icmp .gt 19, 3), (36, .aload_n 0, 1), (37, .invokevirtual 198, 3), (40, .ifCond .ne 6, 3), (43, .bipush (-9), 2), (45, .ireturn, 1), (46, .iinc 3 1, 3), (49, .goto (-18), 3), (52, .aload_n 0, 1), (53, .getfield 41, 3), (56, .iload_n 2, 1), (57, .iaload, 1), (58, .ireturn, 1)]
def m_c144 : List (Nat × Instr × Nat) := [(0, .aload_n 0, 1), (1, .invokevirtual 140, 3), (4, .aload_n 0, 1), (5, .invokevirtual 195, 3), (8, .aload_n 0, 1), (9, .invokevirtual 198, 3), (12, .ifCond .ne 5, 3), (15, .iconst 0, 1), (16, .ireturn, 1), (17, .iconst 0, 1), (18, .istore_n 1, 1), (19, .iload_n 1, 1), (20, .aload_n 0, 1), (21, .invokevirtual 116, 3), (24, .if_icmp .ge 21, 3), (27, .aload_n 0, 1), (28, .getfield 53, 3), (31, .iload_n 1, 1), (32, .aload_n 0, 1), (33, .getfield 41, 3), (36, .iload_n 1, 1), (37, .iaload, 1), (38, .iastore, 1), (39, .iinc 1 1, 3), (42, .goto (-23), 3), (45, .iconst 0, 1), (46, .istore_n 1, 1), (47, .iconst 0, 1), (48, .istore_n 2, 1), (49, .iload_n 2, 1), (50, .aload_n 0, 1), (51, .invokevirtual 116, 3), (54, .if_icmp .ge 60, 3), (57, .aload_n 0, 1), (58, .getfield 16, 3), (61, .iload_n 2, 1), (62, .iaload, 1), (63, .bipush (-9), 2), (65, .if_icmp .ne 43, 3), (68, .aload_n 0, 1), (69, .invokevirtual 140, 3), (72, .aload_n 0, 1), (73, .invokevirtual 195, 3), (76, .aload_n 0, 1), (77, .iload_n 2, 1), (78, .putfield 186, 3), (81, .aload_n 0, 1), (82, .aload_n 0, 1), (83, .getfield 53, 3), (86, .iload_n 2, 1), (87, .iaload, 1), (88, .putfield 189, 3), (91, .iload_n 1, 1), (92, .aload_n 0, 1), (93, .invokevirtual 198, 3), (96, .ifCond .eq 7, 3), (99, .iconst 0, 1), (100, .goto 6, 3), (103, .iconst 1, 1), (104, .iload_n 2, 1), (105, .ishl, 1), (106, .ior, 1), (107, .istore_n 1, 1), (108, .iinc 2 1, 3), (111, .goto (-62), 3), (114, .iload_n 1, 1), (115, .ireturn, 1)]
def m_c145 : List (Nat × Instr × Nat) := [(0, .aload_n 0, 1), (1, .invokevirtual 167, 3), (4, .bipush (-9), 2), (6, .istore_n 1, 1), (7, .iconst 0, 1), (8, .istore_n 2, 1), (9, .iload_n 2, 1), (10, .aload_n 0, 1), (11, .invokevirtual 116, 3), (14, .if_icmp .ge 49, 3), (17, .aload_n 0, 1), (18, .getfield 16, 3), (21, .iload_n 2, 1), (22, .iaload, 1), (23, .bipush (-9), 2), (25, .if_icmp .ne 32, 3), (28, .iload_n 1, 1), (29, .bipush (-9), 2), (31, .if_icmp .eq 24, 3), (34, .aload_n 0, 1), (35, .getfield 44, 3), (38, .iload_n 2, 1), (39, .iaload, 1), (40, .invokestatic 170, 3), (43, .aload_n 0, 1), (44, .getfield 44, 3), (47, .iload_n 1, 1), (48, .iaload, 1), (49, .invokestatic 170, 3), (52, .if_icmp .ge 5, 3), (55, .iload_n 2, 1), (56, .istore_n 1, 1), (57, .iinc 2 1, 3), (60, .goto (-51), 3), (63, .iload_n 1, 1), (64, .ireturn, 1)]
def m_c146 : List (Nat × Instr × Nat) := [(0, .aload_n 0, 1), (1, .iload_n 1, 1), (2, .invokevirtual 136, 3), (5, .ifCond .ne 5, 3), (8, .iconst (-1), 1), (9, .ireturn, 1), (10, .iconst 0, 1), (11, .istore_n 2, 1), (12, .iload_n 2, 1), (13, .bipush 10, 2), (15, .if_icmp .ge 36, 3), (18, .aload_n 0, 1), (19, .invokevirtual 140, 3), (22, .aload_n 0, 1), (23, .getfield 41, 3), (26, .bipush 9, 2), (28, .iload_n 1, 1), (29, .iadd, 1), (30, .iload_n 2, 1), (31, .iastore, 1), (32, .aload_n 0, 1), (33, .invokevirtual 195, 3), (36, .aload_n 0, 1), (37, .invokevirtual 198, 3), (40, .ifCond .eq 5, 3), (43, .iload_n 2, 1), (44, .ireturn, 1), (45, .iinc 2 1, 3), (48, .goto (-36), 3), (51, .bipush (-9), 2), (53, .ireturn, 1)]
def m_c147 : List (Nat × Instr × Nat) := [(0, .aload_n 0, 1), (1, .getfield 7, 3), (4, .iconst 5, 1), (5, .iaload, 1), (6, .istore_n 3, 1), (7, .iload_n 1, 1), (8, .ifCond .ne 12, 3), (11, .aload_n 0, 1), (12, .getfield 7, 3), (15, .iconst 4, 1), (16, .iaload, 1), (17, .goto 4, 3), (20, .iload_n 3, 1), (21, .istore 4, 2), (23, .iload_n 1, 1), (24, .ifCond .ne 12, 3), (27, .aload_n 0, 1), (28, .getfield 7, 3), (31, .iconst 4, 1), (32, .iaload, 1), (33, .goto 22, 3), (36, .aload_n 0, 1), (37, .getfield 7, 3), (40, .iload_n 1, 1), (41, .iconst 1, 1), (42, .isub, 1), (43, .iaload, 1), (44, .aload_n 0, 1), (45, .getfield 7, 3), (48, .iconst 4, 1), (49, .iaload, 1), (50, .imul, 1), (51, .iconst 2, 1), (52, .iload_n 3, 1), (53, .imul, 1), (54, .iadd, 1), (55, .istore 5, 2), (57, .iload_n 2, 1), (58, .iload 4, 2), (60, .iload 5, 2), (62, .if_icmp .le 7, 3), (65, .iconst 1, 1), (66, .goto 4, 3), (69, .iconst 0, 1), (70, .if_icmp .ne 8, 3), (73, .iload 4, 2), (75, .goto 5, 3), (78, .iload 5, 2), (80, .ireturn, 1)]
def m_c148 : List (Nat × Instr × Nat) := [(0, .iload_n 1, 1), (1, .iload_n 2, 1), (2, .if_icmp .ge 7, 3), (5, .iload_n 1, 1), (6, .goto 4, 3), (9, .iload_n 2, 1), (10, .istore_n 3, 1), (11, .iload_n 1, 1), (12, .iload_n 2, 1), (13, .if_icmp .ge 7, 3), (16, .iload_n 2, 1), (17, .goto 4, 3), (20, .iload_n 1, 1), (21, .istore 4, 2), (23, .iconst 0, 1), (24, .istore 5, 2), (26, .iload 5, 2), (28, .iconst 3, 1), (29, .if_icmp .ge 35, 3), (32, .aload_n 0, 1), (33, .iload 5, 2), (35, .iconst 0, 1), (36, .invokevirtual 201, 3), (39, .iload_n 3, 1), (40, .if_icmp .ne 18, 3), (43, .aload_n 0, 1), (44, .iload 5, 2), (46, .iconst 1, 1), (47, .invokevirtual 201, 3), (50, .iload 4, 2), (52, .if_icmp .ne 6, 3), (55, .iload 5, 2), (57, .ireturn, 1), (58, .iinc 5 1, 3), (61, .goto (-35), 3), (64, .bipush (-9), 2), (66, .ireturn, 1)]
def m_c149 : List (Nat × Instr × Nat) := [(0, .aload_n 0, 1), (1, .getfield 56, 3), (4, .iload_n 2, 1), (5, .iaload, 1), (6, .aload_n 0, 1), (7, .getfield 56, 3), (10, .iload_n 3, 1), (11, .iaload, 1), (12, .iadd, 1), (13, .istore 5, 2), (15, .iload 5, 2), (17, .aload_n 0, 1), (18, .getfield 56, 3), (21, .iload_n 1, 1), (22, .iaload, 1), (23, .if_icmp .le 68, 3), (26, .aload_n 0, 1), (27, .getfield 56, 3), (30, .iload_n 1, 1), (31, .iload 5, 2), (33, .iastore, 1), (34, .aload_n 0, 1), (35, .getfield 59, 3), (38, .iload_n 1, 1), (39, .iload 4, 2), (41, .iastore, 1), (42, .iconst 0, 1), (43, .istore 6, 2), (45, .iload 6, 2), (47, .iconst 3, 1), (48, .if_icmp .ge 43, 3), (51, .aload_n 0, 1), (52, .getfield 62, 3), (55, .iconst 3, 1), (56, .iload_n 1, 1), (57, .imul, 1), (58, .iload 6, 2), (60, .iadd, 1), (61, .aload_n 0, 1), (62, .getfield 62, 3), (65, .iconst 3, 1), (66, .iload_n 2, 1), (67, .imul, 1), (68, .iload 6, 2), (70, .iadd, 1), (71, .iaload, 1), (72, .aload_n 0, 1), (73, .getfield 62, 3), (76, .iconst 3, 1), (77, .iload_n 3, 1), (78, .imul, 1), (79, .iload 6, 2), (81, .iadd, 1), (82, .iaload, 1), (83, .iadd, 1), (84, .iastore, 1), (85, .iinc 6 1, 3), (88, .goto (-43), 3), (91, .return_, 1)]
def m_c150 : List (Nat × Instr × Nat) := [(0, .bipush 25, 2), (2, .iload_n 1, 1), (3, .imul, 1), (4, .iload_n 2, 1), (5, .iadd, 1), (6, .istore_n 3, 1), (7, .aload_n 0, 1), (8, .iload_n 1, 1), (9, .iload_n 2, 1), (10, .invokevirtual 205, 3), (13, .istore 4, 2), (15, .aload_n 0, 1), (16, .getfield 56, 3), (19, .iload_n 3, 1), (20, .iload 4, 2), (22, .bipush (-9), 2), (24, .if_icmp .ne 7, 3), (27, .iconst 0, 1), (28, .goto 6, 3), (31, .iload_n 1, 1), (32, .iload_n 2, 1), (33, .imul, 1), (34, .iastore, 1), (35, .aload_n 0, 1), (36, .getfield 59, 3), (39, .iload_n 3, 1), (40, .iload 4, 2), (42, .bipush (-9), 2), (44, .if_icmp .ne 7, 3), (47, .iconst 0, 1), (48, .goto 7, 3), (51, .iconst 1, 1), (52, .iload 4, 2), (54, .iadd, 1), (55, .iastore, 1), (56, .iconst 0, 1), (57, .istore 5, 2), (59, .iload 5, 2), (61, .iconst 3, 1), (62, .if_icmp .ge 32, 3), (65, .aload_n 0, 1), (66, .getfield 62, 3), (69, .iconst 3, 1), (70, .iload_n 3, 1), (71, .imul, 1), (72, .iload 5, 2), (74, .iadd, 1), (75, .iload 5, 2), (77, .iload 4, 2), (79, .if_icmp .ne 7, 3), (82, .iconst 1, 1), (83, .goto 4, 3), (86, .iconst 0, 1), (87, .iastore, 1), (88, .iinc 5 1, 3), (91, .goto (-32), 3), (94, .iconst 1, 1), (95, .istore 5, 2), (97, .iload 5, 2), (99, .iload_n 1, 1), (100, .if_icmp .ge 42, 3), (103, .iload 4, 2), (105, .bipush (-9), 2), (107, .if_icmp .ne 35, 3), (110, .aload_n 0, 1), (111, .iload_n 3, 1), (112, .bipush 25, 2), (114, .iload 5, 2), (116, .imul, 1), (117, .iload_n 2, 1), (118, .iadd, 1), (119, .bipush 25, 2), (121, .iload_n 1, 1), (122, .iload 5, 2), (124, .isub, 1), (125, .imul, 1), (126, .iload_n 2, 1), (127, .iadd, 1), (128, .bipush 100, 2), (130, .iload 5, 2), (132, .iadd, 1), (133, .invokevirtual 208, 3), (136, .iinc 5 1, 3), (139, .goto (-42), 3), (142, .iconst 1, 1), (143, .istore 5, 2), (145, .iload 5, 2), (147, .iload_n 2, 1), (148, .if_icmp .ge 43, 3), (151, .iload 4, 2), (153, .bipush (-9), 2), (155, .if_icmp .ne 36, 3), (158, .aload_n 0, 1), (159, .iload_n 3, 1), (160, .bipush 25, 2), (162, .iload_n 1, 1), (163, .imul, 1), (164, .iload 5, 2), (166, .iadd, 1), (167, .bipush 25, 2), (169, .iload_n 1, 1), (170, .imul, 1), (171, .iload_n 2, 1), (172, .iadd, 1), (173, .iload 5, 2), (175, .isub, 1), (176, .sipush 200, 3), (179, .iload 5, 2), (181, .iadd, 1), (182, .invokevirtual 208, 3), (185, .iinc 5 1, 3), (188, .goto (-43), 3), (191, .return_, 1)]
def m_c151 : List (Nat × Instr × Nat) := [(0, .iconst 1, 1), (1, .istore_n 1, 1), (2, .iload_n 1, 1), (3, .bipush 24, 2), (5, .if_icmp .gt 29, 3), (8, .iconst 1, 1), (9, .istore_n 2, 1), (10, .iload_n 2, 1), (11, .bipush 24, 2), (13, .if_icmp .gt 15, 3), (16, .aload_n 0, 1), (17, .iload_n 1, 1), (18, .iload_n 2, 1), (19, .invokevirtual 212, 3), (22, .iinc 2 1, 3), (25, .goto (-15), 3), (28, .iinc 1 1, 3), (31, .goto (-29), 3), (34, .return_, 1)]
def m_c152 : List (Nat × Instr × Nat) := [(0, .iload_n 0, 1), (1, .iconst 1, 1), (2, .bipush 24, 2), (4, .invokestatic 81, 3), (7, .ifCond .eq 17, 3), (10, .iload_n 1, 1), (11, .iconst 1, 1), (12, .bipush 24, 2), (14, .invokestatic 81, 3), (17, .ifCond .eq 7, 3), (20, .iconst 1, 1), (21, .goto 4, 3), (24, .iconst 0, 1), (25, .ireturn, 1)]
def m_c153 : List (Nat × Instr × Nat) := [(0, .iload_n 1, 1), (1, .iconst 0, 1), (2, .iconst 2, 1), (3, .invokestatic 81, 3), (6, .ifCond .eq 30, 3), (9, .iload_n 2, 1), (10, .iconst 0, 1), (11, .iconst 1, 1), (12, .invokestatic 81, 3), (15, .ifCond .eq 21, 3), (18, .aload_n 0, 1), (19, .iload_n 1, 1), (20, .iload_n 2, 1), (21, .iconst 1, 1), (22, .if_icmp .ne 7, 3), (25, .iconst 1, 1), (26, .goto 4, 3), (29, .iconst 0, 1), (30, .invokevirtual 201, 3), (33, .goto 4, 3), (36, .iconst (-1), 1), (37, .ireturn, 1)]
def m_c154 : List (Nat × Instr × Nat) := [(0, .iload_n 1, 1), (1, .iload_n 2, 1), (2, .invokestatic 216, 3), (5, .ifCond .ne 5, 3), (8, .iconst (-1), 1), (9, .ireturn, 1), (10, .aload_n 0, 1), (11, .invokevirtual 219, 3), (14, .aload_n 0, 1), (15, .getfield 56, 3), (18, .bipush 25, 2), (20, .iload_n 1, 1), (21, .imul, 1), (22, .iload_n 2, 1), (23, .iadd, 1), (24, .iaload, 1), (25, .ireturn, 1)]
def m_c155 : List (Nat × Instr × Nat) := [(0, .iload_n 1, 1), (1, .iload_n 2, 1), (2, .invokestatic 216, 3), (5, .ifCond .ne 5, 3), (8, .iconst (-1), 1), (9, .ireturn, 1), (10, .aload_n 0, 1), (11, .invokevirtual 219, 3), (14, .aload_n 0, 1), (15, .getfield 59, 3), (18, .bipush 25, 2), (20, .iload_n 1, 1), (21, .imul, 1), (22, .iload_n 2, 1), (23, .iadd, 1), (24, .iaload, 1), (25, .ireturn, 1)]
def m_c156 : List (Nat × Instr × Nat) := [(0, .iload_n 1, 1), (1, .iload_n 2, 1), (2, .invokestatic 216, 3), (5, .ifCond .eq 12, 3), (8, .iload_n 3, 1), (9, .iconst 0, 1), (10, .iconst 2, 1), (11, .invokestatic 81, 3), (14, .ifCond .ne 5, 3), (17, .iconst (-1), 1), (18, .ireturn, 1), (19, .aload_n 0, 1), (20, .invokevirtual 219, 3), (23, .aload_n 0, 1), (24, .getfield 62, 3), (27, .iconst 3, 1), (28, .bipush 25, 2), (30, .iload_n 1, 1), (31, .imul, 1), (32, .iload_n 2, 1), (33, .iadd, 1), (34, .imul, 1), (35, .iload_n 3, 1), (36, .iadd, 1), (37, .iaload, 1), (38, .ireturn, 1)]
def m_c157 : List (Nat × Instr × Nat) := [(0, .iload_n 1, 1), (1, .iconst 0, 1), (2, .iconst 1, 1), (3, .invokestatic 81, 3), (6, .ifCond .ne 5, 3), (9, .iconst (-1), 1), (10, .ireturn, 1), (11, .iconst 0, 1), (12, .istore_n 2, 1), (13, .iload_n 2, 1), (14, .bipush 15, 2), (16, .if_icmp .ge 26, 3), (19, .aload_n 0, 1), (20, .getfield 26, 3), (23, .bipush 15, 2), (25, .iload_n 1, 1), (26, .imul, 1), (27, .iload_n 2, 1), (28, .iadd, 1), (29, .aload_n 0, 1), (30, .getfield 16, 3), (33, .iload_n 2, 1), (34, .iaload, 1), (35, .iastore, 1), (36, .iinc 2 1, 3), (39, .goto (-26), 3), (42, .aload_n 0, 1), (43, .getfield 22, 3), (46, .iload_n 1, 1), (47, .iconst 1, 1), (48, .bastore, 1), (49, .aload_n 0, 1), (50, .invokevirtual 158, 3), (53, .ireturn, 1)]
def m_c158 : List (Nat × Instr × Nat) := [(0, .iload_n 1, 1), (1, .iconst 0, 1), (2, .iconst 1, 1), (3, .invokestatic 81, 3), (6, .ifCond .ne 5, 3), (9, .iconst (-1), 1), (10, .ireturn, 1), (11, .aload_n 0, 1), (12, .getfield 22, 3), (15, .iload_n 1, 1), (16, .baload, 1), (17, .ifCond .ne 6, 3), (20, .bipush (-2), 2), (22, .ireturn, 1), (23, .iconst 0, 1), (24, .istore_n 2, 1), (25, .iload_n 2, 1), (26, .bipush 15, 2), (28, .if_icmp .ge 26, 3), (31, .aload_n 0, 1), (32, .getfield 16, 3), (35, .iload_n 2, 1), (36, .aload_n 0, 1), (37, .getfield 26, 3), (40, .bipush 15, 2), (42, .iload_n 1, 1), (43, .imul, 1), (44, .iload_n 2, 1), (45, .iadd, 1), (46, .iaload, 1), (47, .iastore, 1), (48, .iinc 2 1, 3), (51, .goto (-26), 3), (54, .aload_n 0, 1), (55, .iconst 0, 1), (56, .putfield 78, 3), (59, .aload_n 0, 1), (60, .invokevirtual 158, 3), (63, .ireturn, 1)]
def m_c159 : List (Nat × Instr × Nat) := [(0, .iconst 0, 1), (1, .istore_n 1, 1), (2, .aload_n 0, 1), (3, .iload_n 1, 1), (4, .invokevirtual 173, 3), (7, .bipush (-9), 2), (9, .if_icmp .eq 9, 3), (12, .iinc 1 1, 3), (15, .goto (-13), 3), (18, .iload_n 1, 1), (19, .ireturn, 1)]
def m_c160 : List (Nat × Instr × Nat) := [(0, .iload_n 1, 1), (1, .tableswitch 93 0 10 #[59, 64, 64, 64, 64, 64, 64, 73, 78, 83, 88], 59), (60, .aload_n 0, 1), (61, .getfield 75, 3), (64, .ireturn, 1), (65, .aload_n 0, 1), (66, .getfield 7, 3), (69, .iload_n 1, 1), (70, .iconst 1, 1), (71, .isub, 1), (72, .iaload, 1), (73, .ireturn, 1), (74, .aload_n 0, 1), (75, .invokevirtual 158, 3), (78, .ireturn, 1), (79, .aload_n 0, 1), (80, .getfield 85, 3), (83, .ireturn, 1), (84, .aload_n 0, 1), (85, .getfield 78, 3), (88, .ireturn, 1), (89, .aload_n 0, 1), (90, .invokevirtual 222, 3), (93, .ireturn, 1), (94, .iconst (-1), 1), (95, .ireturn, 1)]
def m_c161 : List (Nat × Instr × Nat) := [(0, .iconst 0, 1), (1, .istore_n 2, 1), (2, .aload_n 0, 1), (3, .arraylength, 1), (4, .istore_n 3, 1), (5, .iload_n 2, 1), (6, .iload_n 3, 1), (7, .if_icmp .ge 13, 3), (10, .aload_n 0, 1), (11, .iload_n 2, 1), (12, .iload_n 1, 1), (13, .iastore, 1), (14, .iinc 2 1, 3), (17, .goto (-12), 3), (20, .return_, 1)]
def m_c162 : List (Nat × Instr × Nat) := [(0, .iload_n 0, 1), (1, .iload_n 0, 1), (2, .iconst 1, 1), (3, .iushr, 1), (4, .ldc_w 265, 3), (7, .iand, 1), (8, .isub, 1), (9, .istore_n 0, 1), (10, .iload_n 0, 1), (11, .ldc_w 266, 3), (14, .iand, 1), (15, .iload_n 0, 1), (16, .iconst 2, 1), (17, .iushr, 1), (18, .ldc_w 266, 3), (21, .iand, 1), (22, .iadd, 1), (23, .istore_n 0, 1), (24, .iload_n 0, 1), (25, .iload_n 0, 1), (26, .iconst 4, 1), (27, .iushr, 1), (28, .iadd, 1), (29, .ldc_w 267, 3), (32, .iand, 1), (33, .istore_n 0, 1), (34, .iload_n 0, 1), (35, .iload_n 0, 1), (36, .bipush 8, 2), (38, .iushr, 1), (39, .iadd, 1), (40, .istore_n 0, 1), (41, .iload_n 0, 1), (42, .iload_n 0, 1), (43, .bipush 16, 2), (45, .iushr, 1), (46, .iadd, 1), (47, .istore_n 0, 1), (48, .iload_n 0, 1), (49, .bipush 63, 2), (51, .iand, 1), (52, .ireturn, 1)]
/-- class, name, bytes, locals, answer, how many go in (the receiver too), place of its word -/
def m_ms : List (Nat × MethodName × ByteArray × Nat × Option FieldType × Nat × Nat) := [(0, yX0_init, cX0_init, 1, none, 1, 264),
  (0, yX0_at, cX0_at, 2, some .int, 2, 682),
  (0, yX0_measure, cX0_measure, 2, none, 2, 293),
  (0, yX0_know, cX0_know, 3, none, 1, 675),
  (0, yX0_workOut, cX0_workOut, 6, none, 3, 679),
  (0, yX0_tryCut, cX0_tryCut, 8, none, 5, 692),
  (0, yX0_pieceLike, cX0_pieceLike, 6, some .int, 3, 686),
  (1, yX1_init, cX1_init, 1, none, 1, 229),
  (1, yX1_find, cX1_find, 7, some .int, 5, 608),
  (1, yX1_giveFrom, cX1_giveFrom, 5, none, 3, 624),
  (1, yX1_tryBlock, cX1_tryBlock, 6, none, 4, 636),
  (1, yX1_roomInAll, cX1_roomInAll, 6, some .int, 2, 616),
  (1, yX1_meetingEarlier, cX1_meetingEarlier, 6, some .int, 3, 629),
  (2, yX2_init, cX2_init, 1, none, 1, 192),
  (2, yX2_begin, cX2_begin, 2, none, 2, 428),
  (2, yX2_become, cX2_become, 2, none, 2, 505),
  (2, yX2_openAll, cX2_openAll, 1, none, 1, 197),
  (2, yX2_isOpen, cX2_isOpen, 2, some .boolean, 2, 474),
  (2, yX2_leftOf, cX2_leftOf, 4, some .int, 2, 447),
  (2, yX2_squaresOfHue, cX2_squaresOfHue, 6, some .int, 3, 497),
  (3, yX3_init, cX3_init, 1, none, 1, 85),
  (3, yX3_readInto, cX3_readInto, 6, some .int, 4, 358),
  (3, yX3_startAnew, cX3_startAnew, 2, none, 2, 362),
  (3, yX3_readItem, cX3_readItem, 7, some .boolean, 4, 384),
  (3, yX3_mayStart, cX3_mayStart, 4, some .boolean, 3, 388),
  (3, yX3_numbersOf, cX3_numbersOf, 1, some .int, 1, 391),
  (3, yX3_lowestOf, cX3_lowestOf, 1, some .int, 1, 396),
  (3, yX3_highestOf, cX3_highestOf, 2, some .int, 2, 399),
  (3, yX3_put, cX3_put, 5, none, 5, 403),
  (3, yX3_putKind, cX3_putKind, 4, none, 4, 407),
  (3, yX3_readToken, cX3_readToken, 4, none, 3, 370),
  (3, yX3_readNumber, cX3_readNumber, 4, none, 3, 377),
  (3, yX3_isFigure, cX3_isFigure, 1, some .boolean, 1, 373),
  (3, yX3_isSign, cX3_isSign, 1, some .boolean, 1, 380),
  (4, yX4_init, cX4_init, 1, none, 1, 117),
  (4, yX4_startAnew, cX4_startAnew, 1, none, 1, 122),
  (4, yX4_squares, cX4_squares, 1, some .int, 1, 469),
  (4, yX4_edgeOf, cX4_edgeOf, 4, some .int, 3, 424),
  (4, yX4_isPlain, cX4_isPlain, 3, some .boolean, 2, 416),
  (4, yX4_looksLike, cX4_looksLike, 4, some .boolean, 3, 420),
  (4, yX4_settleBlocks, cX4_settleBlocks, 3, none, 1, 411),
  (4, yX4_plainWith, cX4_plainWith, 3, some .int, 3, 557),
  (4, yX4_beside, cX4_beside, 5, some .int, 3, 486),
  (4, yX4_isFirstOfHue, cX4_isFirstOfHue, 3, some .boolean, 2, 592),
  (4, yX4_hueCount, cX4_hueCount, 3, some .int, 1, 720),
  (4, yX4_hueAt, cX4_hueAt, 4, some .int, 2, 588),
  (4, yX4_kindsOfHue, cX4_kindsOfHue, 4, some .int, 2, 596),
  (5, yX5_init, cX5_init, 1, none, 1, 217),
  (5, yX5_begin, cX5_begin, 6, none, 3, 543),
  (5, yX5_settle, cX5_settle, 7, none, 3, 564),
  (5, yX5_blocksToHave, cX5_blocksToHave, 4, some .int, 2, 546),
  (5, yX5_meetingAround, cX5_meetingAround, 6, some .int, 3, 553),
  (5, yX5_supported, cX5_supported, 7, some .int, 4, 568),
  (5, yX5_meetingOneOf, cX5_meetingOneOf, 5, some .int, 3, 571),
  (6, yX6_init, cX6_init, 2, none, 1, 77),
  (6, yX6_type, cX6_type, 2, some .int, 2, 346),
  (6, yX6_clear, cX6_clear, 2, some .int, 1, 350),
  (6, yX6_tells, cX6_tells, 3, some .int, 1, 354),
  (6, yX6_kind, cX6_kind, 3, some .int, 3, 439),
  (6, yX6_block, cX6_block, 3, some .int, 3, 452),
  (6, yX6_lays, cX6_lays, 4, some .int, 3, 461),
  (6, yX6_takes, cX6_takes, 3, some .int, 2, 514),
  (6, yX6_buys, cX6_buys, 4, some .int, 3, 518),
  (6, yX6_clears, cX6_clears, 2, some .int, 1, 522),
  (6, yX6_undo, cX6_undo, 1, some .int, 1, 527),
  (6, yX6_square, cX6_square, 2, some .int, 2, 531),
  (6, yX6_fits, cX6_fits, 3, some .int, 3, 535),
  (6, yX6_left, cX6_left, 4, some .int, 3, 539),
  (6, yX6_hue, cX6_hue, 4, some .int, 3, 584),
  (6, yX6_many, cX6_many, 2, some .int, 2, 600),
  (6, yX6_quilt, cX6_quilt, 3, some .int, 3, 640),
  (6, yX6_sure, cX6_sure, 3, some .int, 1, 644),
  (6, yX6_next, cX6_next, 5, some .int, 1, 653),
  (6, yX6_wanting, cX6_wanting, 3, some .int, 2, 657),
  (6, yX6_piece, cX6_piece, 3, some .int, 3, 661),
  (6, yX6_good, cX6_good, 3, some .int, 3, 668),
  (6, yX6_cut, cX6_cut, 3, some .int, 3, 697),
  (6, yX6_made, cX6_made, 4, some .int, 4, 701),
  (6, yX6_keep, cX6_keep, 2, some .int, 2, 705),
  (6, yX6_back, cX6_back, 2, some .int, 2, 712),
  (6, yX6_count, cX6_count, 2, some .int, 2, 716),
  (6, yX6_isKind, cX6_isKind, 2, some .boolean, 2, 443),
  (6, yX6_isBlock, cX6_isBlock, 2, some .boolean, 2, 456),
  (6, yX6_isSquare, cX6_isSquare, 2, some .boolean, 2, 465),
  (6, yX6_isPiece, cX6_isPiece, 1, some .boolean, 1, 664),
  (6, yX6_isRectangle, cX6_isRectangle, 2, some .boolean, 2, 671),
  (6, yX6_isImage, cX6_isImage, 1, some .boolean, 1, 708),
  (6, yX6_openSquares, cX6_openSquares, 3, some .int, 1, 510),
  (6, yX6_forgetImages, cX6_forgetImages, 2, none, 1, 435),
  (6, yX6_remember, cX6_remember, 1, none, 1, 501),
  (6, yX6_whyNot, cX6_whyNot, 4, some .int, 3, 478),
  (6, yX6_meetsNeighbours, cX6_meetsNeighbours, 5, some .boolean, 3, 482),
  (6, yX6_keepsRim, cX6_keepsRim, 4, some .boolean, 3, 493),
  (6, yX6_quiltsOf, cX6_quiltsOf, 3, some .int, 3, 604),
  (6, yX6_sameWithAnotherAt, cX6_sameWithAnotherAt, 5, some .int, 3, 649),
  (6, yX6_bitAt, cX6_bitAt, 4, some .int, 2, 580),
  (6, yX6_opposite, cX6_opposite, 1, some .int, 1, 489),
  (7, yX7_in, cX7_in, 3, some .boolean, 3, 832),
  (7, yX7_init, cX7_init, 1, none, 1, 725),
  (7, yX7_begins, cX7_begins, 1, none, 1, 730),
  (7, yX7_becomes, cX7_becomes, 2, none, 1, 734),
  (7, yX7_type, cX7_type, 2, some .int, 2, 829),
  (7, yX7_clear, cX7_clear, 2, some .int, 1, 836),
  (7, yX7_here, cX7_here, 1, some .int, 1, 844),
  (7, yX7_reads, cX7_reads, 7, some .boolean, 3, 856),
  (7, yX7_readsKind, cX7_readsKind, 2, some .boolean, 1, 852),
  (7, yX7_readsOnce, cX7_readsOnce, 7, some .boolean, 6, 860),
  (7, yX7_item, cX7_item, 1, some .boolean, 1, 848),
  (7, yX7_tells, cX7_tells, 2, some .int, 1, 840),
  (7, yX7_isKind, cX7_isKind, 2, some .boolean, 2, 868),
  (7, yX7_isBlock, cX7_isBlock, 2, some .boolean, 2, 884),
  (7, yX7_squares, cX7_squares, 1, some .int, 1, 904),
  (7, yX7_isSquare, cX7_isSquare, 2, some .boolean, 2, 900),
  (7, yX7_edge, cX7_edge, 3, some .int, 3, 888),
  (7, yX7_isPlain, cX7_isPlain, 5, some .boolean, 2, 892),
  (7, yX7_hueOf, cX7_hueOf, 2, some .int, 2, 916),
  (7, yX7_tries, cX7_tries, 2, none, 1, 872),
  (7, yX7_leftOf, cX7_leftOf, 4, some .int, 2, 876),
  (7, yX7_ofHue, cX7_ofHue, 4, some .int, 2, 920),
  (7, yX7_beside, cX7_beside, 5, some .int, 3, 912),
  (7, yX7_whyNot, cX7_whyNot, 6, some .int, 3, 908),
  (7, yX7_kind, cX7_kind, 3, some .int, 3, 864),
  (7, yX7_block, cX7_block, 3, some .int, 3, 880),
  (7, yX7_open, cX7_open, 3, some .int, 1, 928),
  (7, yX7_notes, cX7_notes, 2, none, 1, 924),
  (7, yX7_lays, cX7_lays, 4, some .int, 3, 896),
  (7, yX7_takes, cX7_takes, 3, some .int, 2, 932),
  (7, yX7_buys, cX7_buys, 4, some .int, 3, 936),
  (7, yX7_clears, cX7_clears, 3, some .int, 1, 940),
  (7, yX7_undo, cX7_undo, 2, some .int, 1, 944),
  (7, yX7_square, cX7_square, 2, some .int, 2, 948),
  (7, yX7_fits, cX7_fits, 3, some .int, 3, 952),
  (7, yX7_has, cX7_has, 6, some .boolean, 4, 968),
  (7, yX7_stays, cX7_stays, 6, some .boolean, 3, 964),
  (7, yX7_winnows, cX7_winnows, 4, none, 1, 960),
  (7, yX7_ones, cX7_ones, 3, some .int, 1, 971),
  (7, yX7_left, cX7_left, 5, some .int, 3, 956),
  (7, yX7_hueAt, cX7_hueAt, 6, some .int, 2, 979),
  (7, yX7_hue, cX7_hue, 6, some .int, 3, 975),
  (7, yX7_startsQuilts, cX7_startsQuilts, 2, none, 1, 987),
  (7, yX7_canBe, cX7_canBe, 3, some .boolean, 3, 995),
  (7, yX7_nextQuilt, cX7_nextQuilt, 3, some .boolean, 1, 991),
  (7, yX7_many, cX7_many, 3, some .int, 2, 983),
  (7, yX7_quilt, cX7_quilt, 4, some .int, 3, 999),
  (7, yX7_sure, cX7_sure, 3, some .int, 1, 1003),
  (7, yX7_next, cX7_next, 3, some .int, 1, 1007),
  (7, yX7_wanting, cX7_wanting, 3, some .int, 2, 1011),
  (7, yX7_side, cX7_side, 6, some .int, 3, 1019),
  (7, yX7_pieceOf, cX7_pieceOf, 6, some .int, 3, 1038),
  (7, yX7_laysCut, cX7_laysCut, 7, none, 5, 1042),
  (7, yX7_laysRectangle, cX7_laysRectangle, 6, none, 3, 1034),
  (7, yX7_laysCloth, cX7_laysCloth, 3, none, 1, 1030),
  (7, yX7_isCloth, cX7_isCloth, 2, some .boolean, 2, 1026),
  (7, yX7_piece, cX7_piece, 3, some .int, 3, 1015),
  (7, yX7_good, cX7_good, 3, some .int, 3, 1023),
  (7, yX7_cut, cX7_cut, 3, some .int, 3, 1046),
  (7, yX7_made, cX7_made, 4, some .int, 4, 1050),
  (7, yX7_keep, cX7_keep, 3, some .int, 2, 1054),
  (7, yX7_back, cX7_back, 3, some .int, 2, 1058),
  (7, yX7_hues, cX7_hues, 2, some .int, 1, 1066),
  (7, yX7_count, cX7_count, 2, some .int, 2, 1062),
  (8, yJ7_fill_53178, cJ7_fill_53178, 4, none, 2, 200),
  (9, yJ6_bitCount_0f7a4, cJ6_bitCount_0f7a4, 1, some .int, 1, 574)]
def m_cs : List (List (Nat × Instr × Nat)) := [m_c0, m_c1, m_c2, m_c3, m_c4, m_c5, m_c6, m_c7, m_c8, m_c9, m_c10, m_c11, m_c12, m_c13, m_c14, m_c15, m_c16, m_c17, m_c18, m_c19, m_c20, m_c21, m_c22, m_c23, m_c24, m_c25, m_c26, m_c27, m_c28, m_c29, m_c30, m_c31, m_c32, m_c33, m_c34, m_c35, m_c36, m_c37, m_c38, m_c39, m_c40, m_c41, m_c42, m_c43, m_c44, m_c45, m_c46, m_c47, m_c48, m_c49, m_c50, m_c51, m_c52, m_c53, m_c54, m_c55, m_c56, m_c57, m_c58, m_c59, m_c60, m_c61, m_c62, m_c63, m_c64, m_c65, m_c66, m_c67, m_c68, m_c69, m_c70, m_c71, m_c72, m_c73, m_c74, m_c75, m_c76, m_c77, m_c78, m_c79, m_c80, m_c81, m_c82, m_c83, m_c84, m_c85, m_c86, m_c87, m_c88, m_c89, m_c90, m_c91, m_c92, m_c93, m_c94, m_c95, m_c96, m_c97, m_c98, m_c99, m_c100, m_c101, m_c102, m_c103, m_c104, m_c105, m_c106, m_c107, m_c108, m_c109, m_c110, m_c111, m_c112, m_c113, m_c114, m_c115, m_c116, m_c117, m_c118, m_c119, m_c120, m_c121, m_c122, m_c123, m_c124, m_c125, m_c126, m_c127, m_c128, m_c129, m_c130, m_c131, m_c132, m_c133, m_c134, m_c135, m_c136, m_c137, m_c138, m_c139, m_c140, m_c141, m_c142, m_c143, m_c144, m_c145, m_c146, m_c147, m_c148, m_c149, m_c150, m_c151, m_c152, m_c153, m_c154, m_c155, m_c156, m_c157, m_c158, m_c159, m_c160, m_c161, m_c162]
/-- own class, index: kind (0 virtual, 1 static, 2 <init>, 3 static of a nest mate, 4 <init> of a nest mate, 5 Object.<init>, 6 arraycopy, 7 max, 8 min), method, places -/
def m_mls : List (Nat × Nat × Nat × Nat × Nat × Nat × Nat × Nat) := [(6, 3, 5, 0, 78, 79, 80, 0), (6, 15, 4, 20, 83, 84, 0, 62), (3, 3, 5, 0, 86, 79, 80, 0), (6, 22, 2, 34, 115, 116, 0, 63), (4, 3, 5, 0, 118, 79, 80, 0), (4, 24, 0, 35, 119, 120, 121, 63), (6, 32, 2, 13, 190, 191, 0, 64), (2, 3, 5, 0, 193, 79, 80, 0), (2, 18, 0, 16, 194, 195, 196, 64), (2, 30, 1, 161, 198, 199, 0, 65), (6, 53, 4, 47, 215, 216, 0, 66), (5, 3, 5, 0, 218, 79, 80, 0), (6, 60, 4, 7, 227, 228, 0, 67), (1, 3, 5, 0, 230, 79, 80, 0), (6, 67, 4, 0, 262, 263, 0, 68), (0, 3, 5, 0, 265, 79, 80, 0), (6, 75, 0, 2, 290, 291, 292, 68), (6, 83, 0, 21, 355, 356, 357, 62), (3, 9, 0, 22, 359, 361, 0, 62), (3, 36, 0, 35, 363, 120, 121, 63), (3, 15, 8, 0, 364, 365, 366, 70), (3, 21, 0, 30, 367, 369, 1, 62), (3, 115, 1, 32, 371, 372, 0, 62), (3, 119, 0, 31, 374, 376, 2, 62), (3, 122, 1, 33, 378, 379, 0, 62), (3, 29, 0, 23, 381, 383, 3, 62), (3, 56, 0, 24, 385, 387, 4, 62), (3, 63, 1, 25, 389, 390, 0, 62), (3, 70, 1, 26, 394, 395, 0, 62), (3, 73, 1, 27, 397, 398, 0, 62), (3, 76, 0, 28, 400, 402, 5, 62), (3, 84, 0, 29, 404, 406, 6, 62), (6, 87, 0, 40, 408, 409, 410, 63), (4, 62, 1, 161, 412, 199, 0, 65), (4, 68, 0, 38, 413, 414, 415, 63), (4, 55, 0, 39, 417, 418, 419, 63), (4, 59, 0, 37, 421, 422, 423, 63), (6, 90, 0, 14, 425, 426, 427, 64), (2, 24, 6, 0, 429, 431, 430, 71), (6, 96, 0, 88, 432, 434, 7, 61), (6, 99, 0, 81, 440, 442, 8, 61), (6, 109, 0, 18, 444, 445, 446, 64), (6, 113, 0, 37, 448, 422, 423, 63), (6, 117, 0, 82, 453, 455, 9, 61), (6, 120, 0, 38, 457, 414, 415, 63), (6, 123, 0, 83, 462, 464, 10, 61), (6, 142, 0, 36, 466, 467, 468, 63), (4, 49, 8, 0, 470, 365, 366, 70), (6, 126, 0, 17, 471, 472, 473, 64), (6, 129, 0, 90, 475, 477, 11, 61), (6, 258, 0, 91, 479, 481, 12, 61), (6, 264, 0, 42, 483, 484, 485, 63), (6, 267, 1, 96, 487, 488, 0, 61), (6, 261, 0, 92, 490, 492, 13, 61), (6, 178, 0, 19, 494, 495, 496, 64), (6, 132, 0, 89, 498, 500, 14, 61), (6, 151, 0, 15, 502, 503, 504, 64), (6, 253, 8, 0, 506, 365, 366, 70), (6, 138, 0, 87, 507, 509, 15, 61), (6, 145, 0, 16, 523, 195, 196, 64), (6, 155, 0, 48, 540, 541, 542, 66), (5, 15, 1, 50, 544, 545, 0, 66), (5, 42, 0, 18, 547, 445, 446, 64), (5, 49, 0, 19, 548, 495, 496, 64), (5, 19, 0, 36, 549, 467, 468, 63), (5, 25, 0, 17, 550, 472, 473, 64), (5, 31, 1, 51, 551, 552, 0, 66), (5, 56, 0, 41, 554, 555, 556, 63), (5, 60, 0, 42, 558, 484, 485, 63), (5, 69, 3, 96, 559, 488, 0, 61), (5, 72, 0, 37, 560, 422, 423, 63), (6, 158, 0, 49, 561, 562, 563, 66), (5, 35, 0, 52, 565, 567, 16, 66), (5, 75, 1, 53, 569, 570, 0, 66), (6, 164, 1, 162, 572, 573, 0, 72), (6, 169, 1, 95, 578, 579, 0, 61), (6, 172, 0, 45, 585, 586, 587, 63), (4, 72, 0, 43, 589, 590, 591, 63), (6, 175, 0, 46, 593, 594, 595, 63), (6, 182, 0, 93, 601, 603, 17, 61), (6, 270, 0, 8, 605, 606, 607, 67), (1, 31, 0, 36, 609, 467, 468, 63), (1, 45, 0, 17, 610, 472, 473, 64), (1, 52, 0, 18, 611, 445, 446, 64), (1, 59, 0, 19, 612, 495, 496, 64), (1, 69, 0, 11, 613, 615, 18, 67), (1, 93, 7, 0, 617, 618, 619, 70), (1, 99, 8, 0, 620, 365, 366, 70), (1, 73, 0, 9, 621, 623, 19, 67), (1, 77, 6, 0, 625, 431, 430, 71), (1, 83, 0, 12, 626, 628, 20, 67), (1, 102, 0, 42, 630, 484, 485, 63), (1, 105, 0, 37, 631, 422, 423, 63), (1, 108, 0, 41, 632, 555, 556, 63), (1, 86, 0, 10, 633, 635, 21, 67), (6, 189, 6, 0, 645, 431, 430, 71), (6, 195, 0, 94, 646, 648, 22, 61), (6, 198, 1, 84, 662, 663, 0, 61), (6, 207, 1, 85, 669, 670, 0, 61), (6, 211, 0, 3, 672, 673, 674, 68), (0, 46, 0, 4, 676, 678, 23, 68), (0, 50, 1, 1, 680, 681, 0, 68), (0, 54, 0, 6, 683, 685, 24, 68), (0, 61, 8, 0, 687, 365, 366, 70), (0, 66, 7, 0, 688, 618, 619, 70), (0, 57, 0, 5, 689, 691, 25, 68), (6, 217, 1, 1, 693, 681, 0, 68), (6, 226, 1, 86, 706, 707, 0, 61), (6, 250, 0, 44, 717, 718, 719, 63), (7, 1, 5, 0, 726, 79, 80, 0), (7, 65, 0, 99, 727, 729, 26, 69), (7, 68, 0, 100, 731, 733, 27, 69), (7, 81, 1, 97, 830, 831, 0, 69), (7, 91, 0, 103, 841, 843, 28, 69), (7, 113, 0, 107, 845, 847, 29, 69), (7, 105, 0, 105, 849, 851, 30, 69), (7, 98, 0, 104, 853, 855, 31, 69), (7, 109, 0, 106, 857, 859, 32, 69), (7, 136, 0, 109, 865, 867, 33, 69), (7, 140, 0, 116, 869, 871, 34, 69), (7, 127, 0, 117, 873, 875, 35, 69), (7, 143, 0, 110, 881, 883, 36, 69), (7, 119, 0, 113, 885, 887, 37, 69), (7, 146, 0, 114, 889, 891, 38, 69), (7, 149, 0, 112, 897, 899, 39, 69), (7, 116, 0, 111, 901, 903, 40, 69), (7, 152, 0, 120, 905, 907, 41, 69), (7, 130, 0, 119, 909, 911, 42, 69), (7, 123, 0, 115, 913, 915, 43, 69), (7, 133, 0, 118, 917, 919, 44, 69), (7, 155, 0, 124, 921, 923, 45, 69), (7, 158, 0, 123, 925, 927, 46, 69), (7, 167, 0, 134, 957, 959, 47, 69), (7, 164, 0, 133, 961, 963, 48, 69), (7, 161, 0, 132, 965, 967, 49, 69), (7, 170, 1, 135, 969, 970, 0, 69), (7, 173, 0, 137, 976, 978, 50, 69), (7, 195, 0, 139, 984, 986, 51, 69), (7, 198, 0, 141, 988, 990, 52, 69), (7, 192, 0, 140, 992, 994, 53, 69), (7, 201, 0, 147, 1016, 1018, 54, 69), (7, 216, 1, 152, 1024, 1025, 0, 69), (7, 219, 0, 151, 1027, 1029, 55, 69), (7, 212, 0, 150, 1031, 1033, 56, 69), (7, 205, 0, 148, 1035, 1037, 57, 69), (7, 208, 0, 149, 1039, 1041, 58, 69), (7, 222, 0, 159, 1063, 1065, 59, 69)]
def m_prim (y : Nat) : Bool := y == 25 || y == 27

def m_fl (o x : Nat) : Option (Nat × Nat) := (m_fls.find? (fun q => q.1 == o && q.2.1 == x)).map (fun q => (q.2.2.1, q.2.2.2.1))
def m_cl (o x : Nat) : Option Nat := (m_cls.find? (fun q => q.1 == o && q.2.1 == x)).map (fun q => q.2.2.1)
def m_cn (o x : Nat) : Option Int := (m_cns.find? (fun q => q.1 == o && q.2.1 == x)).map (fun q => q.2.2.1)
def m_ml (o x : Nat) : Option (Nat × Nat) := (m_mls.find? (fun q => q.1 == o && q.2.1 == x)).map (fun q => (q.2.2.1, q.2.2.2.1))
def m_md (y : Nat) : Nat × MethodName × ByteArray × Nat × Option FieldType × Nat × Nat := m_ms.getD y (0, objectInit, ⟨#[]⟩, 0, none, 0, 0)
abbrev m_own (y : Nat) : Nat := (m_md y).1
abbrev m_nm (y : Nat) : MethodName := (m_md y).2.1
abbrev m_by (y : Nat) : ByteArray := (m_md y).2.2.1
abbrev m_mx (y : Nat) : Nat := (m_md y).2.2.2.1
abbrev m_rt (y : Nat) : Option FieldType := (m_md y).2.2.2.2.1
abbrev m_na (y : Nat) : Nat := (m_md y).2.2.2.2.2.1
def m_get (y pc : Nat) : Option (Instr × Nat) := ((m_cs.getD y []).find? (fun q => q.1 == pc)).map (fun q => q.2)
end
section
/-! the tables are right: decoded bytes, words (printed by gen2.py) -/
set_option maxRecDepth 100000 in
theorem m_dc0 : m_c0.all (fun q => decide (decode cX0_init q.1 = .ok q.2)) = true := by decide +kernel
set_option maxRecDepth 100000 in
theorem m_dc1 : m_c1.all (fun q => decide (decode cX0_at q.1 = .ok q.2)) = true := by decide +kernel
set_option maxRecDepth 100000 in
theorem m_dc2 : m_c2.all (fun q => decide (decode cX0_measure q.1 = .ok q.2)) = true := by decide +kernel
set_option maxRecDepth 100000 in
theorem m_dc3 : m_c3.all (fun q => decide (decode cX0_know q.1 = .ok q.2)) = true := by decide +kernel
set_option maxRecDepth 100000 in
theorem m_dc4 : m_c4.all (fun q => decide (decode cX0_workOut q.1 = .ok q.2)) = true := by decide +kernel
set_option maxRecDepth 100000 in
theorem m_dc5 : m_c5.all (fun q => decide (decode cX0_tryCut q.1 = .ok q.2)) = true := by decide +kernel
set_option maxRecDepth 100000 in
theorem m_dc6 : m_c6.all (fun q => decide (decode cX0_pieceLike q.1 = .ok q.2)) = true := by decide +kernel
set_option maxRecDepth 100000 in
theorem m_dc7 : m_c7.all (fun q => decide (decode cX1_init q.1 = .ok q.2)) = true := by decide +kernel
set_option maxRecDepth 100000 in
theorem m_dc8 : m_c8.all (fun q => decide (decode cX1_find q.1 = .ok q.2)) = true := by decide +kernel
set_option maxRecDepth 100000 in
theorem m_dc9 : m_c9.all (fun q => decide (decode cX1_giveFrom q.1 = .ok q.2)) = true := by decide +kernel
set_option maxRecDepth 100000 in
theorem m_dc10 : m_c10.all (fun q => decide (decode cX1_tryBlock q.1 = .ok q.2)) = true := by decide +kernel
set_option maxRecDepth 100000 in
theorem m_dc11 : m_c11.all (fun q => decide (decode cX1_roomInAll q.1 = .ok q.2)) = true := by decide +kernel
set_option maxRecDepth 100000 in
theorem m_dc12 : m_c12.all (fun q => decide (decode cX1_meetingEarlier q.1 = .ok q.2)) = true := by decide +kernel
set_option maxRecDepth 100000 in
theorem m_dc13 : m_c13.all (fun q => decide (decode cX2_init q.1 = .ok q.2)) = true := by decide +kernel
set_option maxRecDepth 100000 in
theorem m_dc14 : m_c14.all (fun q => decide (decode cX2_begin q.1 = .ok q.2)) = true := by decide +kernel
set_option maxRecDepth 100000 in
theorem m_dc15 : m_c15.all (fun q => decide (decode cX2_become q.1 = .ok q.2)) = true := by decide +kernel
set_option maxRecDepth 100000 in
theorem m_dc16 : m_c16.all (fun q => decide (decode cX2_openAll q.1 = .ok q.2)) = true := by decide +kernel
set_option maxRecDepth 100000 in
theorem m_dc17 : m_c17.all (fun q => decide (decode cX2_isOpen q.1 = .ok q.2)) = true := by decide +kernel
set_option maxRecDepth 100000 in
theorem m_dc18 : m_c18.all (fun q => decide (decode cX2_leftOf q.1 = .ok q.2)) = true := by decide +kernel
set_option maxRecDepth 100000 in
theorem m_dc19 : m_c19.all (fun q => decide (decode cX2_squaresOfHue q.1 = .ok q.2)) = true := by decide +kernel
set_option maxRecDepth 100000 in
theorem m_dc20 : m_c20.all (fun q => decide (decode cX3_init q.1 = .ok q.2)) = true := by decide +kernel
set_option maxRecDepth 100000 in
theorem m_dc21 : m_c21.all (fun q => decide (decode cX3_readInto q.1 = .ok q.2)) = true := by decide +kernel
set_option maxRecDepth 100000 in
theorem m_dc22 : m_c22.all (fun q => decide (decode cX3_startAnew q.1 = .ok q.2)) = true := by decide +kernel
set_option maxRecDepth 100000 in
theorem m_dc23 : m_c23.all (fun q => decide (decode cX3_readItem q.1 = .ok q.2)) = true := by decide +kernel
set_option maxRecDepth 100000 in
theorem m_dc24 : m_c24.all (fun q => decide (decode cX3_mayStart q.1 = .ok q.2)) = true := by decide +kernel
set_option maxRecDepth 100000 in
theorem m_dc25 : m_c25.all (fun q => decide (decode cX3_numbersOf q.1 = .ok q.2)) = true := by decide +kernel
set_option maxRecDepth 100000 in
theorem m_dc26 : m_c26.all (fun q => decide (decode cX3_lowestOf q.1 = .ok q.2)) = true := by decide +kernel
set_option maxRecDepth 100000 in
theorem m_dc27 : m_c27.all (fun q => decide (decode cX3_highestOf q.1 = .ok q.2)) = true := by decide +kernel
set_option maxRecDepth 100000 in
theorem m_dc28 : m_c28.all (fun q => decide (decode cX3_put q.1 = .ok q.2)) = true := by decide +kernel
set_option maxRecDepth 100000 in
theorem m_dc29 : m_c29.all (fun q => decide (decode cX3_putKind q.1 = .ok q.2)) = true := by decide +kernel
set_option maxRecDepth 100000 in
theorem m_dc30 : m_c30.all (fun q => decide (decode cX3_readToken q.1 = .ok q.2)) = true := by decide +kernel
set_option maxRecDepth 100000 in
theorem m_dc31 : m_c31.all (fun q => decide (decode cX3_readNumber q.1 = .ok q.2)) = true := by decide +kernel
set_option maxRecDepth 100000 in
theorem m_dc32 : m_c32.all (fun q => decide (decode cX3_isFigure q.1 = .ok q.2)) = true := by decide +kernel
set_option maxRecDepth 100000 in
theorem m_dc33 : m_c33.all (fun q => decide (decode cX3_isSign q.1 = .ok q.2)) = true := by decide +kernel
set_option maxRecDepth 100000 in
theorem m_dc34 : m_c34.all (fun q => decide (decode cX4_init q.1 = .ok q.2)) = true := by decide +kernel
set_option maxRecDepth 100000 in
theorem m_dc35 : m_c35.all (fun q => decide (decode cX4_startAnew q.1 = .ok q.2)) = true := by decide +kernel
set_option maxRecDepth 100000 in
theorem m_dc36 : m_c36.all (fun q => decide (decode cX4_squares q.1 = .ok q.2)) = true := by decide +kernel
set_option maxRecDepth 100000 in
theorem m_dc37 : m_c37.all (fun q => decide (decode cX4_edgeOf q.1 = .ok q.2)) = true := by decide +kernel
set_option maxRecDepth 100000 in
theorem m_dc38 : m_c38.all (fun q => decide (decode cX4_isPlain q.1 = .ok q.2)) = true := by decide +kernel
set_option maxRecDepth 100000 in
theorem m_dc39 : m_c39.all (fun q => decide (decode cX4_looksLike q.1 = .ok q.2)) = true := by decide +kernel
set_option maxRecDepth 100000 in
theorem m_dc40 : m_c40.all (fun q => decide (decode cX4_settleBlocks q.1 = .ok q.2)) = true := by decide +kernel
set_option maxRecDepth 100000 in
theorem m_dc41 : m_c41.all (fun q => decide (decode cX4_plainWith q.1 = .ok q.2)) = true := by decide +kernel
set_option maxRecDepth 100000 in
theorem m_dc42 : m_c42.all (fun q => decide (decode cX4_beside q.1 = .ok q.2)) = true := by decide +kernel
set_option maxRecDepth 100000 in
theorem m_dc43 : m_c43.all (fun q => decide (decode cX4_isFirstOfHue q.1 = .ok q.2)) = true := by decide +kernel
set_option maxRecDepth 100000 in
theorem m_dc44 : m_c44.all (fun q => decide (decode cX4_hueCount q.1 = .ok q.2)) = true := by decide +kernel
set_option maxRecDepth 100000 in
theorem m_dc45 : m_c45.all (fun q => decide (decode cX4_hueAt q.1 = .ok q.2)) = true := by decide +kernel
set_option maxRecDepth 100000 in
theorem m_dc46 : m_c46.all (fun q => decide (decode cX4_kindsOfHue q.1 = .ok q.2)) = true := by decide +kernel
set_option maxRecDepth 100000 in
theorem m_dc47 : m_c47.all (fun q => decide (decode cX5_init q.1 = .ok q.2)) = true := by decide +kernel
set_option maxRecDepth 100000 in
theorem m_dc48 : m_c48.all (fun q => decide (decode cX5_begin q.1 = .ok q.2)) = true := by decide +kernel
set_option maxRecDepth 100000 in
theorem m_dc49 : m_c49.all (fun q => decide (decode cX5_settle q.1 = .ok q.2)) = true := by decide +kernel
set_option maxRecDepth 100000 in
theorem m_dc50 : m_c50.all (fun q => decide (decode cX5_blocksToHave q.1 = .ok q.2)) = true := by decide +kernel
set_option maxRecDepth 100000 in
theorem m_dc51 : m_c51.all (fun q => decide (decode cX5_meetingAround q.1 = .ok q.2)) = true := by decide +kernel
set_option maxRecDepth 100000 in
theorem m_dc52 : m_c52.all (fun q => decide (decode cX5_supported q.1 = .ok q.2)) = true := by decide +kernel
set_option maxRecDepth 100000 in
theorem m_dc53 : m_c53.all (fun q => decide (decode cX5_meetingOneOf q.1 = .ok q.2)) = true := by decide +kernel
set_option maxRecDepth 100000 in
theorem m_dc54 : m_c54.all (fun q => decide (decode cX6_init q.1 = .ok q.2)) = true := by decide +kernel
set_option maxRecDepth 100000 in
theorem m_dc55 : m_c55.all (fun q => decide (decode cX6_type q.1 = .ok q.2)) = true := by decide +kernel
set_option maxRecDepth 100000 in
theorem m_dc56 : m_c56.all (fun q => decide (decode cX6_clear q.1 = .ok q.2)) = true := by decide +kernel
set_option maxRecDepth 100000 in
theorem m_dc57 : m_c57.all (fun q => decide (decode cX6_tells q.1 = .ok q.2)) = true := by decide +kernel
set_option maxRecDepth 100000 in
theorem m_dc58 : m_c58.all (fun q => decide (decode cX6_kind q.1 = .ok q.2)) = true := by decide +kernel
set_option maxRecDepth 100000 in
theorem m_dc59 : m_c59.all (fun q => decide (decode cX6_block q.1 = .ok q.2)) = true := by decide +kernel
set_option maxRecDepth 100000 in
theorem m_dc60 : m_c60.all (fun q => decide (decode cX6_lays q.1 = .ok q.2)) = true := by decide +kernel
set_option maxRecDepth 100000 in
theorem m_dc61 : m_c61.all (fun q => decide (decode cX6_takes q.1 = .ok q.2)) = true := by decide +kernel
set_option maxRecDepth 100000 in
theorem m_dc62 : m_c62.all (fun q => decide (decode cX6_buys q.1 = .ok q.2)) = true := by decide +kernel
set_option maxRecDepth 100000 in
theorem m_dc63 : m_c63.all (fun q => decide (decode cX6_clears q.1 = .ok q.2)) = true := by decide +kernel
set_option maxRecDepth 100000 in
theorem m_dc64 : m_c64.all (fun q => decide (decode cX6_undo q.1 = .ok q.2)) = true := by decide +kernel
set_option maxRecDepth 100000 in
theorem m_dc65 : m_c65.all (fun q => decide (decode cX6_square q.1 = .ok q.2)) = true := by decide +kernel
set_option maxRecDepth 100000 in
theorem m_dc66 : m_c66.all (fun q => decide (decode cX6_fits q.1 = .ok q.2)) = true := by decide +kernel
set_option maxRecDepth 100000 in
theorem m_dc67 : m_c67.all (fun q => decide (decode cX6_left q.1 = .ok q.2)) = true := by decide +kernel
set_option maxRecDepth 100000 in
theorem m_dc68 : m_c68.all (fun q => decide (decode cX6_hue q.1 = .ok q.2)) = true := by decide +kernel
set_option maxRecDepth 100000 in
theorem m_dc69 : m_c69.all (fun q => decide (decode cX6_many q.1 = .ok q.2)) = true := by decide +kernel
set_option maxRecDepth 100000 in
theorem m_dc70 : m_c70.all (fun q => decide (decode cX6_quilt q.1 = .ok q.2)) = true := by decide +kernel
set_option maxRecDepth 100000 in
theorem m_dc71 : m_c71.all (fun q => decide (decode cX6_sure q.1 = .ok q.2)) = true := by decide +kernel
set_option maxRecDepth 100000 in
theorem m_dc72 : m_c72.all (fun q => decide (decode cX6_next q.1 = .ok q.2)) = true := by decide +kernel
set_option maxRecDepth 100000 in
theorem m_dc73 : m_c73.all (fun q => decide (decode cX6_wanting q.1 = .ok q.2)) = true := by decide +kernel
set_option maxRecDepth 100000 in
theorem m_dc74 : m_c74.all (fun q => decide (decode cX6_piece q.1 = .ok q.2)) = true := by decide +kernel
set_option maxRecDepth 100000 in
theorem m_dc75 : m_c75.all (fun q => decide (decode cX6_good q.1 = .ok q.2)) = true := by decide +kernel
set_option maxRecDepth 100000 in
theorem m_dc76 : m_c76.all (fun q => decide (decode cX6_cut q.1 = .ok q.2)) = true := by decide +kernel
set_option maxRecDepth 100000 in
theorem m_dc77 : m_c77.all (fun q => decide (decode cX6_made q.1 = .ok q.2)) = true := by decide +kernel
set_option maxRecDepth 100000 in
theorem m_dc78 : m_c78.all (fun q => decide (decode cX6_keep q.1 = .ok q.2)) = true := by decide +kernel
set_option maxRecDepth 100000 in
theorem m_dc79 : m_c79.all (fun q => decide (decode cX6_back q.1 = .ok q.2)) = true := by decide +kernel
set_option maxRecDepth 100000 in
theorem m_dc80 : m_c80.all (fun q => decide (decode cX6_count q.1 = .ok q.2)) = true := by decide +kernel
set_option maxRecDepth 100000 in
theorem m_dc81 : m_c81.all (fun q => decide (decode cX6_isKind q.1 = .ok q.2)) = true := by decide +kernel
set_option maxRecDepth 100000 in
theorem m_dc82 : m_c82.all (fun q => decide (decode cX6_isBlock q.1 = .ok q.2)) = true := by decide +kernel
set_option maxRecDepth 100000 in
theorem m_dc83 : m_c83.all (fun q => decide (decode cX6_isSquare q.1 = .ok q.2)) = true := by decide +kernel
set_option maxRecDepth 100000 in
theorem m_dc84 : m_c84.all (fun q => decide (decode cX6_isPiece q.1 = .ok q.2)) = true := by decide +kernel
set_option maxRecDepth 100000 in
theorem m_dc85 : m_c85.all (fun q => decide (decode cX6_isRectangle q.1 = .ok q.2)) = true := by decide +kernel
set_option maxRecDepth 100000 in
theorem m_dc86 : m_c86.all (fun q => decide (decode cX6_isImage q.1 = .ok q.2)) = true := by decide +kernel
set_option maxRecDepth 100000 in
theorem m_dc87 : m_c87.all (fun q => decide (decode cX6_openSquares q.1 = .ok q.2)) = true := by decide +kernel
set_option maxRecDepth 100000 in
theorem m_dc88 : m_c88.all (fun q => decide (decode cX6_forgetImages q.1 = .ok q.2)) = true := by decide +kernel
set_option maxRecDepth 100000 in
theorem m_dc89 : m_c89.all (fun q => decide (decode cX6_remember q.1 = .ok q.2)) = true := by decide +kernel
set_option maxRecDepth 100000 in
theorem m_dc90 : m_c90.all (fun q => decide (decode cX6_whyNot q.1 = .ok q.2)) = true := by decide +kernel
set_option maxRecDepth 100000 in
theorem m_dc91 : m_c91.all (fun q => decide (decode cX6_meetsNeighbours q.1 = .ok q.2)) = true := by decide +kernel
set_option maxRecDepth 100000 in
theorem m_dc92 : m_c92.all (fun q => decide (decode cX6_keepsRim q.1 = .ok q.2)) = true := by decide +kernel
set_option maxRecDepth 100000 in
theorem m_dc93 : m_c93.all (fun q => decide (decode cX6_quiltsOf q.1 = .ok q.2)) = true := by decide +kernel
set_option maxRecDepth 100000 in
theorem m_dc94 : m_c94.all (fun q => decide (decode cX6_sameWithAnotherAt q.1 = .ok q.2)) = true := by decide +kernel
set_option maxRecDepth 100000 in
theorem m_dc95 : m_c95.all (fun q => decide (decode cX6_bitAt q.1 = .ok q.2)) = true := by decide +kernel
set_option maxRecDepth 100000 in
theorem m_dc96 : m_c96.all (fun q => decide (decode cX6_opposite q.1 = .ok q.2)) = true := by decide +kernel
set_option maxRecDepth 100000 in
theorem m_dc97 : m_c97.all (fun q => decide (decode cX7_in q.1 = .ok q.2)) = true := by decide +kernel
set_option maxRecDepth 100000 in
theorem m_dc98 : m_c98.all (fun q => decide (decode cX7_init q.1 = .ok q.2)) = true := by decide +kernel
set_option maxRecDepth 100000 in
theorem m_dc99 : m_c99.all (fun q => decide (decode cX7_begins q.1 = .ok q.2)) = true := by decide +kernel
set_option maxRecDepth 100000 in
theorem m_dc100 : m_c100.all (fun q => decide (decode cX7_becomes q.1 = .ok q.2)) = true := by decide +kernel
set_option maxRecDepth 100000 in
theorem m_dc101 : m_c101.all (fun q => decide (decode cX7_type q.1 = .ok q.2)) = true := by decide +kernel
set_option maxRecDepth 100000 in
theorem m_dc102 : m_c102.all (fun q => decide (decode cX7_clear q.1 = .ok q.2)) = true := by decide +kernel
set_option maxRecDepth 100000 in
theorem m_dc103 : m_c103.all (fun q => decide (decode cX7_here q.1 = .ok q.2)) = true := by decide +kernel
set_option maxRecDepth 100000 in
theorem m_dc104 : m_c104.all (fun q => decide (decode cX7_reads q.1 = .ok q.2)) = true := by decide +kernel
set_option maxRecDepth 100000 in
theorem m_dc105 : m_c105.all (fun q => decide (decode cX7_readsKind q.1 = .ok q.2)) = true := by decide +kernel
set_option maxRecDepth 100000 in
theorem m_dc106 : m_c106.all (fun q => decide (decode cX7_readsOnce q.1 = .ok q.2)) = true := by decide +kernel
set_option maxRecDepth 100000 in
theorem m_dc107 : m_c107.all (fun q => decide (decode cX7_item q.1 = .ok q.2)) = true := by decide +kernel
set_option maxRecDepth 100000 in
theorem m_dc108 : m_c108.all (fun q => decide (decode cX7_tells q.1 = .ok q.2)) = true := by decide +kernel
set_option maxRecDepth 100000 in
theorem m_dc109 : m_c109.all (fun q => decide (decode cX7_isKind q.1 = .ok q.2)) = true := by decide +kernel
set_option maxRecDepth 100000 in
theorem m_dc110 : m_c110.all (fun q => decide (decode cX7_isBlock q.1 = .ok q.2)) = true := by decide +kernel
set_option maxRecDepth 100000 in
theorem m_dc111 : m_c111.all (fun q => decide (decode cX7_squares q.1 = .ok q.2)) = true := by decide +kernel
set_option maxRecDepth 100000 in
theorem m_dc112 : m_c112.all (fun q => decide (decode cX7_isSquare q.1 = .ok q.2)) = true := by decide +kernel
set_option maxRecDepth 100000 in
theorem m_dc113 : m_c113.all (fun q => decide (decode cX7_edge q.1 = .ok q.2)) = true := by decide +kernel
set_option maxRecDepth 100000 in
theorem m_dc114 : m_c114.all (fun q => decide (decode cX7_isPlain q.1 = .ok q.2)) = true := by decide +kernel
set_option maxRecDepth 100000 in
theorem m_dc115 : m_c115.all (fun q => decide (decode cX7_hueOf q.1 = .ok q.2)) = true := by decide +kernel
set_option maxRecDepth 100000 in
theorem m_dc116 : m_c116.all (fun q => decide (decode cX7_tries q.1 = .ok q.2)) = true := by decide +kernel
set_option maxRecDepth 100000 in
theorem m_dc117 : m_c117.all (fun q => decide (decode cX7_leftOf q.1 = .ok q.2)) = true := by decide +kernel
set_option maxRecDepth 100000 in
theorem m_dc118 : m_c118.all (fun q => decide (decode cX7_ofHue q.1 = .ok q.2)) = true := by decide +kernel
set_option maxRecDepth 100000 in
theorem m_dc119 : m_c119.all (fun q => decide (decode cX7_beside q.1 = .ok q.2)) = true := by decide +kernel
set_option maxRecDepth 100000 in
theorem m_dc120 : m_c120.all (fun q => decide (decode cX7_whyNot q.1 = .ok q.2)) = true := by decide +kernel
set_option maxRecDepth 100000 in
theorem m_dc121 : m_c121.all (fun q => decide (decode cX7_kind q.1 = .ok q.2)) = true := by decide +kernel
set_option maxRecDepth 100000 in
theorem m_dc122 : m_c122.all (fun q => decide (decode cX7_block q.1 = .ok q.2)) = true := by decide +kernel
set_option maxRecDepth 100000 in
theorem m_dc123 : m_c123.all (fun q => decide (decode cX7_open q.1 = .ok q.2)) = true := by decide +kernel
set_option maxRecDepth 100000 in
theorem m_dc124 : m_c124.all (fun q => decide (decode cX7_notes q.1 = .ok q.2)) = true := by decide +kernel
set_option maxRecDepth 100000 in
theorem m_dc125 : m_c125.all (fun q => decide (decode cX7_lays q.1 = .ok q.2)) = true := by decide +kernel
set_option maxRecDepth 100000 in
theorem m_dc126 : m_c126.all (fun q => decide (decode cX7_takes q.1 = .ok q.2)) = true := by decide +kernel
set_option maxRecDepth 100000 in
theorem m_dc127 : m_c127.all (fun q => decide (decode cX7_buys q.1 = .ok q.2)) = true := by decide +kernel
set_option maxRecDepth 100000 in
theorem m_dc128 : m_c128.all (fun q => decide (decode cX7_clears q.1 = .ok q.2)) = true := by decide +kernel
set_option maxRecDepth 100000 in
theorem m_dc129 : m_c129.all (fun q => decide (decode cX7_undo q.1 = .ok q.2)) = true := by decide +kernel
set_option maxRecDepth 100000 in
theorem m_dc130 : m_c130.all (fun q => decide (decode cX7_square q.1 = .ok q.2)) = true := by decide +kernel
set_option maxRecDepth 100000 in
theorem m_dc131 : m_c131.all (fun q => decide (decode cX7_fits q.1 = .ok q.2)) = true := by decide +kernel
set_option maxRecDepth 100000 in
theorem m_dc132 : m_c132.all (fun q => decide (decode cX7_has q.1 = .ok q.2)) = true := by decide +kernel
set_option maxRecDepth 100000 in
theorem m_dc133 : m_c133.all (fun q => decide (decode cX7_stays q.1 = .ok q.2)) = true := by decide +kernel
set_option maxRecDepth 100000 in
theorem m_dc134 : m_c134.all (fun q => decide (decode cX7_winnows q.1 = .ok q.2)) = true := by decide +kernel
set_option maxRecDepth 100000 in
theorem m_dc135 : m_c135.all (fun q => decide (decode cX7_ones q.1 = .ok q.2)) = true := by decide +kernel
set_option maxRecDepth 100000 in
theorem m_dc136 : m_c136.all (fun q => decide (decode cX7_left q.1 = .ok q.2)) = true := by decide +kernel
set_option maxRecDepth 100000 in
theorem m_dc137 : m_c137.all (fun q => decide (decode cX7_hueAt q.1 = .ok q.2)) = true := by decide +kernel
set_option maxRecDepth 100000 in
theorem m_dc138 : m_c138.all (fun q => decide (decode cX7_hue q.1 = .ok q.2)) = true := by decide +kernel
set_option maxRecDepth 100000 in
theorem m_dc139 : m_c139.all (fun q => decide (decode cX7_startsQuilts q.1 = .ok q.2)) = true := by decide +kernel
set_option maxRecDepth 100000 in
theorem m_dc140 : m_c140.all (fun q => decide (decode cX7_canBe q.1 = .ok q.2)) = true := by decide +kernel
set_option maxRecDepth 100000 in
theorem m_dc141 : m_c141.all (fun q => decide (decode cX7_nextQuilt q.1 = .ok q.2)) = true := by decide +kernel
set_option maxRecDepth 100000 in
theorem m_dc142 : m_c142.all (fun q => decide (decode cX7_many q.1 = .ok q.2)) = true := by decide +kernel
set_option maxRecDepth 100000 in
theorem m_dc143 : m_c143.all (fun q => decide (decode cX7_quilt q.1 = .ok q.2)) = true := by decide +kernel
set_option maxRecDepth 100000 in
theorem m_dc144 : m_c144.all (fun q => decide (decode cX7_sure q.1 = .ok q.2)) = true := by decide +kernel
set_option maxRecDepth 100000 in
theorem m_dc145 : m_c145.all (fun q => decide (decode cX7_next q.1 = .ok q.2)) = true := by decide +kernel
set_option maxRecDepth 100000 in
theorem m_dc146 : m_c146.all (fun q => decide (decode cX7_wanting q.1 = .ok q.2)) = true := by decide +kernel
set_option maxRecDepth 100000 in
theorem m_dc147 : m_c147.all (fun q => decide (decode cX7_side q.1 = .ok q.2)) = true := by decide +kernel
set_option maxRecDepth 100000 in
theorem m_dc148 : m_c148.all (fun q => decide (decode cX7_pieceOf q.1 = .ok q.2)) = true := by decide +kernel
set_option maxRecDepth 100000 in
theorem m_dc149 : m_c149.all (fun q => decide (decode cX7_laysCut q.1 = .ok q.2)) = true := by decide +kernel
set_option maxRecDepth 100000 in
theorem m_dc150 : m_c150.all (fun q => decide (decode cX7_laysRectangle q.1 = .ok q.2)) = true := by decide +kernel
set_option maxRecDepth 100000 in
theorem m_dc151 : m_c151.all (fun q => decide (decode cX7_laysCloth q.1 = .ok q.2)) = true := by decide +kernel
set_option maxRecDepth 100000 in
theorem m_dc152 : m_c152.all (fun q => decide (decode cX7_isCloth q.1 = .ok q.2)) = true := by decide +kernel
set_option maxRecDepth 100000 in
theorem m_dc153 : m_c153.all (fun q => decide (decode cX7_piece q.1 = .ok q.2)) = true := by decide +kernel
set_option maxRecDepth 100000 in
theorem m_dc154 : m_c154.all (fun q => decide (decode cX7_good q.1 = .ok q.2)) = true := by decide +kernel
set_option maxRecDepth 100000 in
theorem m_dc155 : m_c155.all (fun q => decide (decode cX7_cut q.1 = .ok q.2)) = true := by decide +kernel
set_option maxRecDepth 100000 in
theorem m_dc156 : m_c156.all (fun q => decide (decode cX7_made q.1 = .ok q.2)) = true := by decide +kernel
set_option maxRecDepth 100000 in
theorem m_dc157 : m_c157.all (fun q => decide (decode cX7_keep q.1 = .ok q.2)) = true := by decide +kernel
set_option maxRecDepth 100000 in
theorem m_dc158 : m_c158.all (fun q => decide (decode cX7_back q.1 = .ok q.2)) = true := by decide +kernel
set_option maxRecDepth 100000 in
theorem m_dc159 : m_c159.all (fun q => decide (decode cX7_hues q.1 = .ok q.2)) = true := by decide +kernel
set_option maxRecDepth 100000 in
theorem m_dc160 : m_c160.all (fun q => decide (decode cX7_count q.1 = .ok q.2)) = true := by decide +kernel
set_option maxRecDepth 100000 in
theorem m_dc161 : m_c161.all (fun q => decide (decode cJ7_fill_53178 q.1 = .ok q.2)) = true := by decide +kernel
set_option maxRecDepth 100000 in
theorem m_dc162 : m_c162.all (fun q => decide (decode cJ6_bitCount_0f7a4 q.1 = .ok q.2)) = true := by decide +kernel
theorem m_dcs (y : Nat) : (m_cs.getD y []).all (fun q => decide (decode (m_by y) q.1 = .ok q.2)) = true := match y with
  | 0 => m_dc0
  | 1 => m_dc1
  | 2 => m_dc2
  | 3 => m_dc3
  | 4 => m_dc4
  | 5 => m_dc5
  | 6 => m_dc6
  | 7 => m_dc7
  | 8 => m_dc8
  | 9 => m_dc9
  | 10 => m_dc10
  | 11 => m_dc11
  | 12 => m_dc12
  | 13 => m_dc13
  | 14 => m_dc14
  | 15 => m_dc15
  | 16 => m_dc16
  | 17 => m_dc17
  | 18 => m_dc18
  | 19 => m_dc19
  | 20 => m_dc20
  | 21 => m_dc21
  | 22 => m_dc22
  | 23 => m_dc23
  | 24 => m_dc24
  | 25 => m_dc25
  | 26 => m_dc26
  | 27 => m_dc27
  | 28 => m_dc28
  | 29 => m_dc29
  | 30 => m_dc30
  | 31 => m_dc31
  | 32 => m_dc32
  | 33 => m_dc33
  | 34 => m_dc34
  | 35 => m_dc35
  | 36 => m_dc36
  | 37 => m_dc37
  | 38 => m_dc38
  | 39 => m_dc39
  | 40 => m_dc40
  | 41 => m_dc41
  | 42 => m_dc42
  | 43 => m_dc43
  | 44 => m_dc44
  | 45 => m_dc45
  | 46 => m_dc46
  | 47 => m_dc47
  | 48 => m_dc48
  | 49 => m_dc49
  | 50 => m_dc50
  | 51 => m_dc51
  | 52 => m_dc52
  | 53 => m_dc53
  | 54 => m_dc54
  | 55 => m_dc55
  | 56 => m_dc56
  | 57 => m_dc57
  | 58 => m_dc58
  | 59 => m_dc59
  | 60 => m_dc60
  | 61 => m_dc61
  | 62 => m_dc62
  | 63 => m_dc63
  | 64 => m_dc64
  | 65 => m_dc65
  | 66 => m_dc66
  | 67 => m_dc67
  | 68 => m_dc68
  | 69 => m_dc69
  | 70 => m_dc70
  | 71 => m_dc71
  | 72 => m_dc72
  | 73 => m_dc73
  | 74 => m_dc74
  | 75 => m_dc75
  | 76 => m_dc76
  | 77 => m_dc77
  | 78 => m_dc78
  | 79 => m_dc79
  | 80 => m_dc80
  | 81 => m_dc81
  | 82 => m_dc82
  | 83 => m_dc83
  | 84 => m_dc84
  | 85 => m_dc85
  | 86 => m_dc86
  | 87 => m_dc87
  | 88 => m_dc88
  | 89 => m_dc89
  | 90 => m_dc90
  | 91 => m_dc91
  | 92 => m_dc92
  | 93 => m_dc93
  | 94 => m_dc94
  | 95 => m_dc95
  | 96 => m_dc96
  | 97 => m_dc97
  | 98 => m_dc98
  | 99 => m_dc99
  | 100 => m_dc100
  | 101 => m_dc101
  | 102 => m_dc102
  | 103 => m_dc103
  | 104 => m_dc104
  | 105 => m_dc105
  | 106 => m_dc106
  | 107 => m_dc107
  | 108 => m_dc108
  | 109 => m_dc109
  | 110 => m_dc110
  | 111 => m_dc111
  | 112 => m_dc112
  | 113 => m_dc113
  | 114 => m_dc114
  | 115 => m_dc115
  | 116 => m_dc116
  | 117 => m_dc117
  | 118 => m_dc118
  | 119 => m_dc119
  | 120 => m_dc120
  | 121 => m_dc121
  | 122 => m_dc122
  | 123 => m_dc123
  | 124 => m_dc124
  | 125 => m_dc125
  | 126 => m_dc126
  | 127 => m_dc127
  | 128 => m_dc128
  | 129 => m_dc129
  | 130 => m_dc130
  | 131 => m_dc131
  | 132 => m_dc132
  | 133 => m_dc133
  | 134 => m_dc134
  | 135 => m_dc135
  | 136 => m_dc136
  | 137 => m_dc137
  | 138 => m_dc138
  | 139 => m_dc139
  | 140 => m_dc140
  | 141 => m_dc141
  | 142 => m_dc142
  | 143 => m_dc143
  | 144 => m_dc144
  | 145 => m_dc145
  | 146 => m_dc146
  | 147 => m_dc147
  | 148 => m_dc148
  | 149 => m_dc149
  | 150 => m_dc150
  | 151 => m_dc151
  | 152 => m_dc152
  | 153 => m_dc153
  | 154 => m_dc154
  | 155 => m_dc155
  | 156 => m_dc156
  | 157 => m_dc157
  | 158 => m_dc158
  | 159 => m_dc159
  | 160 => m_dc160
  | 161 => m_dc161
  | 162 => m_dc162
  | _ + 163 => rfl
theorem m_dec {y pc : Nat} {i : Instr} {len : Nat} (h : m_get y pc = some (i, len)) : decode (m_by y) pc = .ok (i, len) := by
  unfold m_get at h
  cases hf : (m_cs.getD y []).find? (fun q => q.1 == pc) with
  | none => rw [hf] at h; cases h
  | some q =>
    rw [hf] at h
    have h1 := List.all_eq_true.mp (m_dcs y) q (List.mem_of_find?_eq_some hf)
    have h2 : (q.1 == pc) = true := by simpa using List.find?_some hf
    have h3 : q.1 = pc := by simpa using h2
    have h4 : q.2 = (i, len) := Option.some.inj h
    have h5 : decode (m_by y) q.1 = .ok q.2 := of_decide_eq_true h1
    rw [h3, h4] at h5
    exact h5
end
section
/-! the words behind the tables, by their places -/
def m_C (ci : Nat) : vw_C := m_classes.getD ci ("", fun _ => ("", "", "", false), 0)
def m_ty (ci : Nat) : Nat → FieldType := [tyX0, tyX1, tyX2, tyX3, tyX4, tyX5, tyX6, tyX7].getD ci (fun _ => .int)
def m_tg (t : FieldType) : Nat := match t with
  | .int => 0
  | .boolean => 1
  | .object _ => 2
  | .array _ => 2
  | _ => 3
def m_at (i : Nat) (w : Cond) : Bool := decide (lw_tbl[i]? = some w) && goodWord w
theorem m_at_in {i : Nat} {w : Cond} (h : m_at i w = true) : w ∈ m_tbl := by
  unfold m_at at h
  rw [Bool.and_eq_true] at h
  exact m_tbl_at ⟨of_decide_eq_true h.1, h.2⟩
theorem m_C_get {ci : Nat} (h : ci < 8) : m_classes[ci]? = some (m_C ci) := by
  match ci, h with
  | 0, _ => rfl
  | 1, _ => rfl
  | 2, _ => rfl
  | 3, _ => rfl
  | 4, _ => rfl
  | 5, _ => rfl
  | 6, _ => rfl
  | 7, _ => rfl
theorem m_ty_ok {ci : Nat} (h : ci < 8) : ∀ k, k < (m_C ci).2.2 → parseFieldDescriptor ((m_C ci).2.1 k).2.2.1 = some (m_ty ci k) := by
  match ci, h with
  | 0, _ => exact tyX0_ok
  | 1, _ => exact tyX1_ok
  | 2, _ => exact tyX2_ok
  | 3, _ => exact tyX3_ok
  | 4, _ => exact tyX4_ok
  | 5, _ => exact tyX5_ok
  | 6, _ => exact tyX6_ok
  | 7, _ => exact tyX7_ok
theorem m_nm_ok {ci : Nat} (h : ci < 8) : ∀ a, a < (m_C ci).2.2 → ∀ b, b < (m_C ci).2.2 → a ≠ b → ((m_C ci).2.1 a).2.1 ≠ ((m_C ci).2.1 b).2.1 := by
  match ci, h with
  | 0, _ => exact nmX0
  | 1, _ => exact nmX1
  | 2, _ => exact nmX2
  | 3, _ => exact nmX3
  | 4, _ => exact nmX4
  | 5, _ => exact nmX5
  | 6, _ => exact nmX6
  | 7, _ => exact nmX7
set_option maxRecDepth 100000 in
theorem m_in_all : (List.range 8).all (fun ci => (u_ws (m_C ci).1 (m_C ci).2.1 (m_C ci).2.2).all (fun w => decide (w ∈ lw_tbl) && goodWord w)) = true := by decide +kernel
theorem m_in_ok {ci : Nat} (h : ci < 8) : ∀ w ∈ u_ws (m_C ci).1 (m_C ci).2.1 (m_C ci).2.2, w ∈ m_tbl := by
  intro w hw
  have h1 := List.all_eq_true.mp (List.all_eq_true.mp m_in_all ci (List.mem_range.mpr h)) w hw
  rw [Bool.and_eq_true] at h1
  exact List.mem_filter.mpr ⟨of_decide_eq_true h1.1, h1.2⟩
theorem m_tag_all : (List.range 8).all (fun ci => decide ((m_tagL ci).length = (m_C ci).2.2) && (List.range (m_C ci).2.2).all (fun k => decide ((m_tagL ci)[k]? = some (m_tg (m_ty ci k))) && decide (((m_C ci).2.1 k).1 = (m_C ci).1))) = true := by decide +kernel
theorem m_tag_len {ci : Nat} (h : ci < 8) : (m_tagL ci).length = (m_C ci).2.2 := by
  have h1 := List.all_eq_true.mp m_tag_all ci (List.mem_range.mpr h)
  rw [Bool.and_eq_true] at h1
  exact of_decide_eq_true h1.1
theorem m_tag_at {ci k : Nat} (h : ci < 8) (hk : k < (m_C ci).2.2) : (m_tagL ci)[k]? = some (m_tg (m_ty ci k)) ∧ ((m_C ci).2.1 k).1 = (m_C ci).1 := by
  have h1 := List.all_eq_true.mp m_tag_all ci (List.mem_range.mpr h)
  rw [Bool.and_eq_true] at h1
  have h2 := List.all_eq_true.mp h1.2 k (List.mem_range.mpr hk)
  rw [Bool.and_eq_true] at h2
  exact ⟨of_decide_eq_true h2.1, of_decide_eq_true h2.2⟩
def m_insP : List Nat := [261, 226, 189, 82, 114, 214, 74, 722]
def m_iniP : List Nat := [68, 67, 64, 62, 63, 66, 61, 69]
theorem m_ins_all : (List.range 8).all (fun ci => m_at (m_insP.getD ci 0) (.instantiable (m_C ci).1 (m_C ci).2.2) && m_at (m_iniP.getD ci 0) (.initialized (m_C ci).1)) = true := by decide +kernel
theorem m_ins_ok {ci : Nat} (h : ci < 8) : Cond.instantiable (m_C ci).1 (m_C ci).2.2 ∈ m_tbl ∧ Cond.initialized (m_C ci).1 ∈ m_tbl := by
  have h1 := List.all_eq_true.mp m_ins_all ci (List.mem_range.mpr h)
  rw [Bool.and_eq_true] at h1
  exact ⟨m_at_in h1.1, m_at_in h1.2⟩
theorem m_fls_all : m_fls.all (fun q => decide (q.2.2.1 < 8) && decide (q.2.2.2.1 < (m_C q.2.2.1).2.2) && m_at q.2.2.2.2 (.fieldLink (m_cR q.1) q.2.1 (m_C q.2.2.1).1 ((m_C q.2.2.1).2.1 q.2.2.2.1).2.1 ((m_C q.2.2.1).2.1 q.2.2.2.1).2.2.1)) = true := by decide +kernel
theorem m_fl_ok {o x ci k : Nat} (h : m_fl o x = some (ci, k)) : ci < 8 ∧ k < (m_C ci).2.2 ∧ Cond.fieldLink (m_cR o) x (m_C ci).1 ((m_C ci).2.1 k).2.1 ((m_C ci).2.1 k).2.2.1 ∈ m_tbl := by
  unfold m_fl at h
  cases hf : m_fls.find? (fun q => q.1 == o && q.2.1 == x) with
  | none => rw [hf] at h; cases h
  | some q =>
    rw [hf] at h
    have h1 := List.all_eq_true.mp m_fls_all q (List.mem_of_find?_eq_some hf)
    have h2 := List.find?_some hf
    obtain ⟨a, b, c2, d, f⟩ := q
    simp only [Bool.and_eq_true, beq_iff_eq, decide_eq_true_eq] at h1 h2
    obtain ⟨rfl, rfl⟩ := h2
    cases h
    exact ⟨h1.1.1, h1.1.2, m_at_in h1.2⟩
theorem m_cls_all : m_cls.all (fun q => decide (q.2.2.1 < 8) && m_at q.2.2.2 (.classLink (m_cR q.1) q.2.1 (m_C q.2.2.1).1)) = true := by decide +kernel
theorem m_cl_ok {o x ci : Nat} (h : m_cl o x = some ci) : ci < 8 ∧ Cond.classLink (m_cR o) x (m_C ci).1 ∈ m_tbl := by
  unfold m_cl at h
  cases hf : m_cls.find? (fun q => q.1 == o && q.2.1 == x) with
  | none => rw [hf] at h; cases h
  | some q =>
    rw [hf] at h
    have h1 := List.all_eq_true.mp m_cls_all q (List.mem_of_find?_eq_some hf)
    have h2 := List.find?_some hf
    obtain ⟨a, b, c2, d⟩ := q
    simp only [Bool.and_eq_true, beq_iff_eq, decide_eq_true_eq] at h1 h2
    obtain ⟨rfl, rfl⟩ := h2
    cases h
    exact ⟨h1.1, m_at_in h1.2⟩
theorem m_cns_all : m_cns.all (fun q => m_at q.2.2.2 (.constant (m_cR q.1) q.2.1 (Int32.ofInt q.2.2.1))) = true := by decide +kernel
theorem m_cn_ok {o x : Nat} {v : Int} (h : m_cn o x = some v) : Cond.constant (m_cR o) x (Int32.ofInt v) ∈ m_tbl := by
  unfold m_cn at h
  cases hf : m_cns.find? (fun q => q.1 == o && q.2.1 == x) with
  | none => rw [hf] at h; cases h
  | some q =>
    rw [hf] at h
    have h1 := List.all_eq_true.mp m_cns_all q (List.mem_of_find?_eq_some hf)
    have h2 := List.find?_some hf
    obtain ⟨a, b, c2, d⟩ := q
    simp only [Bool.and_eq_true, beq_iff_eq, decide_eq_true_eq] at h1 h2
    obtain ⟨rfl, rfl⟩ := h2
    cases h
    exact m_at_in h1
end
section
/-! the code words, by their places (printed by gen2.py) -/
set_option maxRecDepth 20000 in
theorem m_cw0 : lw_tbl[264]? = some (.code yX0_init cX0_init 1 (none)) := rfl
set_option maxRecDepth 20000 in
theorem m_cw1 : lw_tbl[682]? = some (.code yX0_at cX0_at 2 (some .int)) := rfl
set_option maxRecDepth 20000 in
theorem m_cw2 : lw_tbl[293]? = some (.code yX0_measure cX0_measure 2 (none)) := rfl
set_option maxRecDepth 20000 in
theorem m_cw3 : lw_tbl[675]? = some (.code yX0_know cX0_know 3 (none)) := rfl
set_option maxRecDepth 20000 in
theorem m_cw4 : lw_tbl[679]? = some (.code yX0_workOut cX0_workOut 6 (none)) := rfl
set_option maxRecDepth 20000 in
theorem m_cw5 : lw_tbl[692]? = some (.code yX0_tryCut cX0_tryCut 8 (none)) := rfl
set_option maxRecDepth 20000 in
theorem m_cw6 : lw_tbl[686]? = some (.code yX0_pieceLike cX0_pieceLike 6 (some .int)) := rfl
set_option maxRecDepth 20000 in
theorem m_cw7 : lw_tbl[229]? = some (.code yX1_init cX1_init 1 (none)) := rfl
set_option maxRecDepth 20000 in
theorem m_cw8 : lw_tbl[608]? = some (.code yX1_find cX1_find 7 (some .int)) := rfl
set_option maxRecDepth 20000 in
theorem m_cw9 : lw_tbl[624]? = some (.code yX1_giveFrom cX1_giveFrom 5 (none)) := rfl
set_option maxRecDepth 20000 in
theorem m_cw10 : lw_tbl[636]? = some (.code yX1_tryBlock cX1_tryBlock 6 (none)) := rfl
set_option maxRecDepth 20000 in
theorem m_cw11 : lw_tbl[616]? = some (.code yX1_roomInAll cX1_roomInAll 6 (some .int)) := rfl
set_option maxRecDepth 20000 in
theorem m_cw12 : lw_tbl[629]? = some (.code yX1_meetingEarlier cX1_meetingEarlier 6 (some .int)) := rfl
set_option maxRecDepth 20000 in
theorem m_cw13 : lw_tbl[192]? = some (.code yX2_init cX2_init 1 (none)) := rfl
set_option maxRecDepth 20000 in
theorem m_cw14 : lw_tbl[428]? = some (.code yX2_begin cX2_begin 2 (none)) := rfl
set_option maxRecDepth 20000 in
theorem m_cw15 : lw_tbl[505]? = some (.code yX2_become cX2_become 2 (none)) := rfl
set_option maxRecDepth 20000 in
theorem m_cw16 : lw_tbl[197]? = some (.code yX2_openAll cX2_openAll 1 (none)) := rfl
set_option maxRecDepth 20000 in
theorem m_cw17 : lw_tbl[474]? = some (.code yX2_isOpen cX2_isOpen 2 (some .boolean)) := rfl
set_option maxRecDepth 20000 in
theorem m_cw18 : lw_tbl[447]? = some (.code yX2_leftOf cX2_leftOf 4 (some .int)) := rfl
set_option maxRecDepth 20000 in
theorem m_cw19 : lw_tbl[497]? = some (.code yX2_squaresOfHue cX2_squaresOfHue 6 (some .int)) := rfl
set_option maxRecDepth 20000 in
theorem m_cw20 : lw_tbl[85]? = some (.code yX3_init cX3_init 1 (none)) := rfl
set_option maxRecDepth 20000 in
theorem m_cw21 : lw_tbl[358]? = some (.code yX3_readInto cX3_readInto 6 (some .int)) := rfl
set_option maxRecDepth 20000 in
theorem m_cw22 : lw_tbl[362]? = some (.code yX3_startAnew cX3_startAnew 2 (none)) := rfl
set_option maxRecDepth 20000 in
theorem m_cw23 : lw_tbl[384]? = some (.code yX3_readItem cX3_readItem 7 (some .boolean)) := rfl
set_option maxRecDepth 20000 in
theorem m_cw24 : lw_tbl[388]? = some (.code yX3_mayStart cX3_mayStart 4 (some .boolean)) := rfl
set_option maxRecDepth 20000 in
theorem m_cw25 : lw_tbl[391]? = some (.code yX3_numbersOf cX3_numbersOf 1 (some .int)) := rfl
set_option maxRecDepth 20000 in
theorem m_cw26 : lw_tbl[396]? = some (.code yX3_lowestOf cX3_lowestOf 1 (some .int)) := rfl
set_option maxRecDepth 20000 in
theorem m_cw27 : lw_tbl[399]? = some (.code yX3_highestOf cX3_highestOf 2 (some .int)) := rfl
set_option maxRecDepth 20000 in
theorem m_cw28 : lw_tbl[403]? = some (.code yX3_put cX3_put 5 (none)) := rfl
set_option maxRecDepth 20000 in
theorem m_cw29 : lw_tbl[407]? = some (.code yX3_putKind cX3_putKind 4 (none)) := rfl
set_option maxRecDepth 20000 in
theorem m_cw30 : lw_tbl[370]? = some (.code yX3_readToken cX3_readToken 4 (none)) := rfl
set_option maxRecDepth 20000 in
theorem m_cw31 : lw_tbl[377]? = some (.code yX3_readNumber cX3_readNumber 4 (none)) := rfl
set_option maxRecDepth 20000 in
theorem m_cw32 : lw_tbl[373]? = some (.code yX3_isFigure cX3_isFigure 1 (some .boolean)) := rfl
set_option maxRecDepth 20000 in
theorem m_cw33 : lw_tbl[380]? = some (.code yX3_isSign cX3_isSign 1 (some .boolean)) := rfl
set_option maxRecDepth 20000 in
theorem m_cw34 : lw_tbl[117]? = some (.code yX4_init cX4_init 1 (none)) := rfl
set_option maxRecDepth 20000 in
theorem m_cw35 : lw_tbl[122]? = some (.code yX4_startAnew cX4_startAnew 1 (none)) := rfl
set_option maxRecDepth 20000 in
theorem m_cw36 : lw_tbl[469]? = some (.code yX4_squares cX4_squares 1 (some .int)) := rfl
set_option maxRecDepth 20000 in
theorem m_cw37 : lw_tbl[424]? = some (.code yX4_edgeOf cX4_edgeOf 4 (some .int)) := rfl
set_option maxRecDepth 20000 in
theorem m_cw38 : lw_tbl[416]? = some (.code yX4_isPlain cX4_isPlain 3 (some .boolean)) := rfl
set_option maxRecDepth 20000 in
theorem m_cw39 : lw_tbl[420]? = some (.code yX4_looksLike cX4_looksLike 4 (some .boolean)) := rfl
set_option maxRecDepth 20000 in
theorem m_cw40 : lw_tbl[411]? = some (.code yX4_settleBlocks cX4_settleBlocks 3 (none)) := rfl
set_option maxRecDepth 20000 in
theorem m_cw41 : lw_tbl[557]? = some (.code yX4_plainWith cX4_plainWith 3 (some .int)) := rfl
set_option maxRecDepth 20000 in
theorem m_cw42 : lw_tbl[486]? = some (.code yX4_beside cX4_beside 5 (some .int)) := rfl
set_option maxRecDepth 20000 in
theorem m_cw43 : lw_tbl[592]? = some (.code yX4_isFirstOfHue cX4_isFirstOfHue 3 (some .boolean)) := rfl
set_option maxRecDepth 20000 in
theorem m_cw44 : lw_tbl[720]? = some (.code yX4_hueCount cX4_hueCount 3 (some .int)) := rfl
set_option maxRecDepth 20000 in
theorem m_cw45 : lw_tbl[588]? = some (.code yX4_hueAt cX4_hueAt 4 (some .int)) := rfl
set_option maxRecDepth 20000 in
theorem m_cw46 : lw_tbl[596]? = some (.code yX4_kindsOfHue cX4_kindsOfHue 4 (some .int)) := rfl
set_option maxRecDepth 20000 in
theorem m_cw47 : lw_tbl[217]? = some (.code yX5_init cX5_init 1 (none)) := rfl
set_option maxRecDepth 20000 in
theorem m_cw48 : lw_tbl[543]? = some (.code yX5_begin cX5_begin 6 (none)) := rfl
set_option maxRecDepth 20000 in
theorem m_cw49 : lw_tbl[564]? = some (.code yX5_settle cX5_settle 7 (none)) := rfl
set_option maxRecDepth 20000 in
theorem m_cw50 : lw_tbl[546]? = some (.code yX5_blocksToHave cX5_blocksToHave 4 (some .int)) := rfl
set_option maxRecDepth 20000 in
theorem m_cw51 : lw_tbl[553]? = some (.code yX5_meetingAround cX5_meetingAround 6 (some .int)) := rfl
set_option maxRecDepth 20000 in
theorem m_cw52 : lw_tbl[568]? = some (.code yX5_supported cX5_supported 7 (some .int)) := rfl
set_option maxRecDepth 20000 in
theorem m_cw53 : lw_tbl[571]? = some (.code yX5_meetingOneOf cX5_meetingOneOf 5 (some .int)) := rfl
set_option maxRecDepth 20000 in
theorem m_cw54 : lw_tbl[77]? = some (.code yX6_init cX6_init 2 (none)) := rfl
set_option maxRecDepth 20000 in
theorem m_cw55 : lw_tbl[346]? = some (.code yX6_type cX6_type 2 (some .int)) := rfl
set_option maxRecDepth 20000 in
theorem m_cw56 : lw_tbl[350]? = some (.code yX6_clear cX6_clear 2 (some .int)) := rfl
set_option maxRecDepth 20000 in
theorem m_cw57 : lw_tbl[354]? = some (.code yX6_tells cX6_tells 3 (some .int)) := rfl
set_option maxRecDepth 20000 in
theorem m_cw58 : lw_tbl[439]? = some (.code yX6_kind cX6_kind 3 (some .int)) := rfl
set_option maxRecDepth 20000 in
theorem m_cw59 : lw_tbl[452]? = some (.code yX6_block cX6_block 3 (some .int)) := rfl
set_option maxRecDepth 20000 in
theorem m_cw60 : lw_tbl[461]? = some (.code yX6_lays cX6_lays 4 (some .int)) := rfl
set_option maxRecDepth 20000 in
theorem m_cw61 : lw_tbl[514]? = some (.code yX6_takes cX6_takes 3 (some .int)) := rfl
set_option maxRecDepth 20000 in
theorem m_cw62 : lw_tbl[518]? = some (.code yX6_buys cX6_buys 4 (some .int)) := rfl
set_option maxRecDepth 20000 in
theorem m_cw63 : lw_tbl[522]? = some (.code yX6_clears cX6_clears 2 (some .int)) := rfl
set_option maxRecDepth 20000 in
theorem m_cw64 : lw_tbl[527]? = some (.code yX6_undo cX6_undo 1 (some .int)) := rfl
set_option maxRecDepth 20000 in
theorem m_cw65 : lw_tbl[531]? = some (.code yX6_square cX6_square 2 (some .int)) := rfl
set_option maxRecDepth 20000 in
theorem m_cw66 : lw_tbl[535]? = some (.code yX6_fits cX6_fits 3 (some .int)) := rfl
set_option maxRecDepth 20000 in
theorem m_cw67 : lw_tbl[539]? = some (.code yX6_left cX6_left 4 (some .int)) := rfl
set_option maxRecDepth 20000 in
theorem m_cw68 : lw_tbl[584]? = some (.code yX6_hue cX6_hue 4 (some .int)) := rfl
set_option maxRecDepth 20000 in
theorem m_cw69 : lw_tbl[600]? = some (.code yX6_many cX6_many 2 (some .int)) := rfl
set_option maxRecDepth 20000 in
theorem m_cw70 : lw_tbl[640]? = some (.code yX6_quilt cX6_quilt 3 (some .int)) := rfl
set_option maxRecDepth 20000 in
theorem m_cw71 : lw_tbl[644]? = some (.code yX6_sure cX6_sure 3 (some .int)) := rfl
set_option maxRecDepth 20000 in
theorem m_cw72 : lw_tbl[653]? = some (.code yX6_next cX6_next 5 (some .int)) := rfl
set_option maxRecDepth 20000 in
theorem m_cw73 : lw_tbl[657]? = some (.code yX6_wanting cX6_wanting 3 (some .int)) := rfl
set_option maxRecDepth 20000 in
theorem m_cw74 : lw_tbl[661]? = some (.code yX6_piece cX6_piece 3 (some .int)) := rfl
set_option maxRecDepth 20000 in
theorem m_cw75 : lw_tbl[668]? = some (.code yX6_good cX6_good 3 (some .int)) := rfl
set_option maxRecDepth 20000 in
theorem m_cw76 : lw_tbl[697]? = some (.code yX6_cut cX6_cut 3 (some .int)) := rfl
set_option maxRecDepth 20000 in
theorem m_cw77 : lw_tbl[701]? = some (.code yX6_made cX6_made 4 (some .int)) := rfl
set_option maxRecDepth 20000 in
theorem m_cw78 : lw_tbl[705]? = some (.code yX6_keep cX6_keep 2 (some .int)) := rfl
set_option maxRecDepth 20000 in
theorem m_cw79 : lw_tbl[712]? = some (.code yX6_back cX6_back 2 (some .int)) := rfl
set_option maxRecDepth 20000 in
theorem m_cw80 : lw_tbl[716]? = some (.code yX6_count cX6_count 2 (some .int)) := rfl
set_option maxRecDepth 20000 in
theorem m_cw81 : lw_tbl[443]? = some (.code yX6_isKind cX6_isKind 2 (some .boolean)) := rfl
set_option maxRecDepth 20000 in
theorem m_cw82 : lw_tbl[456]? = some (.code yX6_isBlock cX6_isBlock 2 (some .boolean)) := rfl
set_option maxRecDepth 20000 in
theorem m_cw83 : lw_tbl[465]? = some (.code yX6_isSquare cX6_isSquare 2 (some .boolean)) := rfl
set_option maxRecDepth 20000 in
theorem m_cw84 : lw_tbl[664]? = some (.code yX6_isPiece cX6_isPiece 1 (some .boolean)) := rfl
set_option maxRecDepth 20000 in
theorem m_cw85 : lw_tbl[671]? = some (.code yX6_isRectangle cX6_isRectangle 2 (some .boolean)) := rfl
set_option maxRecDepth 20000 in
theorem m_cw86 : lw_tbl[708]? = some (.code yX6_isImage cX6_isImage 1 (some .boolean)) := rfl
set_option maxRecDepth 20000 in
theorem m_cw87 : lw_tbl[510]? = some (.code yX6_openSquares cX6_openSquares 3 (some .int)) := rfl
set_option maxRecDepth 20000 in
theorem m_cw88 : lw_tbl[435]? = some (.code yX6_forgetImages cX6_forgetImages 2 (none)) := rfl
set_option maxRecDepth 20000 in
theorem m_cw89 : lw_tbl[501]? = some (.code yX6_remember cX6_remember 1 (none)) := rfl
set_option maxRecDepth 20000 in
theorem m_cw90 : lw_tbl[478]? = some (.code yX6_whyNot cX6_whyNot 4 (some .int)) := rfl
set_option maxRecDepth 20000 in
theorem m_cw91 : lw_tbl[482]? = some (.code yX6_meetsNeighbours cX6_meetsNeighbours 5 (some .boolean)) := rfl
set_option maxRecDepth 20000 in
theorem m_cw92 : lw_tbl[493]? = some (.code yX6_keepsRim cX6_keepsRim 4 (some .boolean)) := rfl
set_option maxRecDepth 20000 in
theorem m_cw93 : lw_tbl[604]? = some (.code yX6_quiltsOf cX6_quiltsOf 3 (some .int)) := rfl
set_option maxRecDepth 20000 in
theorem m_cw94 : lw_tbl[649]? = some (.code yX6_sameWithAnotherAt cX6_sameWithAnotherAt 5 (some .int)) := rfl
set_option maxRecDepth 20000 in
theorem m_cw95 : lw_tbl[580]? = some (.code yX6_bitAt cX6_bitAt 4 (some .int)) := rfl
set_option maxRecDepth 20000 in
theorem m_cw96 : lw_tbl[489]? = some (.code yX6_opposite cX6_opposite 1 (some .int)) := rfl
set_option maxRecDepth 20000 in
theorem m_cw97 : lw_tbl[832]? = some (.code yX7_in cX7_in 3 (some .boolean)) := rfl
set_option maxRecDepth 20000 in
theorem m_cw98 : lw_tbl[725]? = some (.code yX7_init cX7_init 1 (none)) := rfl
set_option maxRecDepth 20000 in
theorem m_cw99 : lw_tbl[730]? = some (.code yX7_begins cX7_begins 1 (none)) := rfl
set_option maxRecDepth 20000 in
theorem m_cw100 : lw_tbl[734]? = some (.code yX7_becomes cX7_becomes 2 (none)) := rfl
set_option maxRecDepth 20000 in
theorem m_cw101 : lw_tbl[829]? = some (.code yX7_type cX7_type 2 (some .int)) := rfl
set_option maxRecDepth 20000 in
theorem m_cw102 : lw_tbl[836]? = some (.code yX7_clear cX7_clear 2 (some .int)) := rfl
set_option maxRecDepth 20000 in
theorem m_cw103 : lw_tbl[844]? = some (.code yX7_here cX7_here 1 (some .int)) := rfl
set_option maxRecDepth 20000 in
theorem m_cw104 : lw_tbl[856]? = some (.code yX7_reads cX7_reads 7 (some .boolean)) := rfl
set_option maxRecDepth 20000 in
theorem m_cw105 : lw_tbl[852]? = some (.code yX7_readsKind cX7_readsKind 2 (some .boolean)) := rfl
set_option maxRecDepth 20000 in
theorem m_cw106 : lw_tbl[860]? = some (.code yX7_readsOnce cX7_readsOnce 7 (some .boolean)) := rfl
set_option maxRecDepth 20000 in
theorem m_cw107 : lw_tbl[848]? = some (.code yX7_item cX7_item 1 (some .boolean)) := rfl
set_option maxRecDepth 20000 in
theorem m_cw108 : lw_tbl[840]? = some (.code yX7_tells cX7_tells 2 (some .int)) := rfl
set_option maxRecDepth 20000 in
theorem m_cw109 : lw_tbl[868]? = some (.code yX7_isKind cX7_isKind 2 (some .boolean)) := rfl
set_option maxRecDepth 20000 in
theorem m_cw110 : lw_tbl[884]? = some (.code yX7_isBlock cX7_isBlock 2 (some .boolean)) := rfl
set_option maxRecDepth 20000 in
theorem m_cw111 : lw_tbl[904]? = some (.code yX7_squares cX7_squares 1 (some .int)) := rfl
set_option maxRecDepth 20000 in
theorem m_cw112 : lw_tbl[900]? = some (.code yX7_isSquare cX7_isSquare 2 (some .boolean)) := rfl
set_option maxRecDepth 20000 in
theorem m_cw113 : lw_tbl[888]? = some (.code yX7_edge cX7_edge 3 (some .int)) := rfl
set_option maxRecDepth 20000 in
theorem m_cw114 : lw_tbl[892]? = some (.code yX7_isPlain cX7_isPlain 5 (some .boolean)) := rfl
set_option maxRecDepth 20000 in
theorem m_cw115 : lw_tbl[916]? = some (.code yX7_hueOf cX7_hueOf 2 (some .int)) := rfl
set_option maxRecDepth 20000 in
theorem m_cw116 : lw_tbl[872]? = some (.code yX7_tries cX7_tries 2 (none)) := rfl
set_option maxRecDepth 20000 in
theorem m_cw117 : lw_tbl[876]? = some (.code yX7_leftOf cX7_leftOf 4 (some .int)) := rfl
set_option maxRecDepth 20000 in
theorem m_cw118 : lw_tbl[920]? = some (.code yX7_ofHue cX7_ofHue 4 (some .int)) := rfl
set_option maxRecDepth 20000 in
theorem m_cw119 : lw_tbl[912]? = some (.code yX7_beside cX7_beside 5 (some .int)) := rfl
set_option maxRecDepth 20000 in
theorem m_cw120 : lw_tbl[908]? = some (.code yX7_whyNot cX7_whyNot 6 (some .int)) := rfl
set_option maxRecDepth 20000 in
theorem m_cw121 : lw_tbl[864]? = some (.code yX7_kind cX7_kind 3 (some .int)) := rfl
set_option maxRecDepth 20000 in
theorem m_cw122 : lw_tbl[880]? = some (.code yX7_block cX7_block 3 (some .int)) := rfl
set_option maxRecDepth 20000 in
theorem m_cw123 : lw_tbl[928]? = some (.code yX7_open cX7_open 3 (some .int)) := rfl
set_option maxRecDepth 20000 in
theorem m_cw124 : lw_tbl[924]? = some (.code yX7_notes cX7_notes 2 (none)) := rfl
set_option maxRecDepth 20000 in
theorem m_cw125 : lw_tbl[896]? = some (.code yX7_lays cX7_lays 4 (some .int)) := rfl
set_option maxRecDepth 20000 in
theorem m_cw126 : lw_tbl[932]? = some (.code yX7_takes cX7_takes 3 (some .int)) := rfl
set_option maxRecDepth 20000 in
theorem m_cw127 : lw_tbl[936]? = some (.code yX7_buys cX7_buys 4 (some .int)) := rfl
set_option maxRecDepth 20000 in
theorem m_cw128 : lw_tbl[940]? = some (.code yX7_clears cX7_clears 3 (some .int)) := rfl
set_option maxRecDepth 20000 in
theorem m_cw129 : lw_tbl[944]? = some (.code yX7_undo cX7_undo 2 (some .int)) := rfl
set_option maxRecDepth 20000 in
theorem m_cw130 : lw_tbl[948]? = some (.code yX7_square cX7_square 2 (some .int)) := rfl
set_option maxRecDepth 20000 in
theorem m_cw131 : lw_tbl[952]? = some (.code yX7_fits cX7_fits 3 (some .int)) := rfl
set_option maxRecDepth 20000 in
theorem m_cw132 : lw_tbl[968]? = some (.code yX7_has cX7_has 6 (some .boolean)) := rfl
set_option maxRecDepth 20000 in
theorem m_cw133 : lw_tbl[964]? = some (.code yX7_stays cX7_stays 6 (some .boolean)) := rfl
set_option maxRecDepth 20000 in
theorem m_cw134 : lw_tbl[960]? = some (.code yX7_winnows cX7_winnows 4 (none)) := rfl
set_option maxRecDepth 20000 in
theorem m_cw135 : lw_tbl[971]? = some (.code yX7_ones cX7_ones 3 (some .int)) := rfl
set_option maxRecDepth 20000 in
theorem m_cw136 : lw_tbl[956]? = some (.code yX7_left cX7_left 5 (some .int)) := rfl
set_option maxRecDepth 20000 in
theorem m_cw137 : lw_tbl[979]? = some (.code yX7_hueAt cX7_hueAt 6 (some .int)) := rfl
set_option maxRecDepth 20000 in
theorem m_cw138 : lw_tbl[975]? = some (.code yX7_hue cX7_hue 6 (some .int)) := rfl
set_option maxRecDepth 20000 in
theorem m_cw139 : lw_tbl[987]? = some (.code yX7_startsQuilts cX7_startsQuilts 2 (none)) := rfl
set_option maxRecDepth 20000 in
theorem m_cw140 : lw_tbl[995]? = some (.code yX7_canBe cX7_canBe 3 (some .boolean)) := rfl
set_option maxRecDepth 20000 in
theorem m_cw141 : lw_tbl[991]? = some (.code yX7_nextQuilt cX7_nextQuilt 3 (some .boolean)) := rfl
set_option maxRecDepth 20000 in
theorem m_cw142 : lw_tbl[983]? = some (.code yX7_many cX7_many 3 (some .int)) := rfl
set_option maxRecDepth 20000 in
theorem m_cw143 : lw_tbl[999]? = some (.code yX7_quilt cX7_quilt 4 (some .int)) := rfl
set_option maxRecDepth 20000 in
theorem m_cw144 : lw_tbl[1003]? = some (.code yX7_sure cX7_sure 3 (some .int)) := rfl
set_option maxRecDepth 20000 in
theorem m_cw145 : lw_tbl[1007]? = some (.code yX7_next cX7_next 3 (some .int)) := rfl
set_option maxRecDepth 20000 in
theorem m_cw146 : lw_tbl[1011]? = some (.code yX7_wanting cX7_wanting 3 (some .int)) := rfl
set_option maxRecDepth 20000 in
theorem m_cw147 : lw_tbl[1019]? = some (.code yX7_side cX7_side 6 (some .int)) := rfl
set_option maxRecDepth 20000 in
theorem m_cw148 : lw_tbl[1038]? = some (.code yX7_pieceOf cX7_pieceOf 6 (some .int)) := rfl
set_option maxRecDepth 20000 in
theorem m_cw149 : lw_tbl[1042]? = some (.code yX7_laysCut cX7_laysCut 7 (none)) := rfl
set_option maxRecDepth 20000 in
theorem m_cw150 : lw_tbl[1034]? = some (.code yX7_laysRectangle cX7_laysRectangle 6 (none)) := rfl
set_option maxRecDepth 20000 in
theorem m_cw151 : lw_tbl[1030]? = some (.code yX7_laysCloth cX7_laysCloth 3 (none)) := rfl
set_option maxRecDepth 20000 in
theorem m_cw152 : lw_tbl[1026]? = some (.code yX7_isCloth cX7_isCloth 2 (some .boolean)) := rfl
set_option maxRecDepth 20000 in
theorem m_cw153 : lw_tbl[1015]? = some (.code yX7_piece cX7_piece 3 (some .int)) := rfl
set_option maxRecDepth 20000 in
theorem m_cw154 : lw_tbl[1023]? = some (.code yX7_good cX7_good 3 (some .int)) := rfl
set_option maxRecDepth 20000 in
theorem m_cw155 : lw_tbl[1046]? = some (.code yX7_cut cX7_cut 3 (some .int)) := rfl
set_option maxRecDepth 20000 in
theorem m_cw156 : lw_tbl[1050]? = some (.code yX7_made cX7_made 4 (some .int)) := rfl
set_option maxRecDepth 20000 in
theorem m_cw157 : lw_tbl[1054]? = some (.code yX7_keep cX7_keep 3 (some .int)) := rfl
set_option maxRecDepth 20000 in
theorem m_cw158 : lw_tbl[1058]? = some (.code yX7_back cX7_back 3 (some .int)) := rfl
set_option maxRecDepth 20000 in
theorem m_cw159 : lw_tbl[1066]? = some (.code yX7_hues cX7_hues 2 (some .int)) := rfl
set_option maxRecDepth 20000 in
theorem m_cw160 : lw_tbl[1062]? = some (.code yX7_count cX7_count 2 (some .int)) := rfl
set_option maxRecDepth 20000 in
theorem m_cw161 : lw_tbl[200]? = some (.code yJ7_fill_53178 cJ7_fill_53178 4 (none)) := rfl
set_option maxRecDepth 20000 in
theorem m_cw162 : lw_tbl[574]? = some (.code yJ6_bitCount_0f7a4 cJ6_bitCount_0f7a4 1 (some .int)) := rfl
theorem m_cws (y : Nat) (h : y < 163) : lw_tbl[(m_md y).2.2.2.2.2.2]? = some (.code (m_nm y) (m_by y) (m_mx y) (m_rt y)) := match y, h with
  | 0, _ => m_cw0
  | 1, _ => m_cw1
  | 2, _ => m_cw2
  | 3, _ => m_cw3
  | 4, _ => m_cw4
  | 5, _ => m_cw5
  | 6, _ => m_cw6
  | 7, _ => m_cw7
  | 8, _ => m_cw8
  | 9, _ => m_cw9
  | 10, _ => m_cw10
  | 11, _ => m_cw11
  | 12, _ => m_cw12
  | 13, _ => m_cw13
  | 14, _ => m_cw14
  | 15, _ => m_cw15
  | 16, _ => m_cw16
  | 17, _ => m_cw17
  | 18, _ => m_cw18
  | 19, _ => m_cw19
  | 20, _ => m_cw20
  | 21, _ => m_cw21
  | 22, _ => m_cw22
  | 23, _ => m_cw23
  | 24, _ => m_cw24
  | 25, _ => m_cw25
  | 26, _ => m_cw26
  | 27, _ => m_cw27
  | 28, _ => m_cw28
  | 29, _ => m_cw29
  | 30, _ => m_cw30
  | 31, _ => m_cw31
  | 32, _ => m_cw32
  | 33, _ => m_cw33
  | 34, _ => m_cw34
  | 35, _ => m_cw35
  | 36, _ => m_cw36
  | 37, _ => m_cw37
  | 38, _ => m_cw38
  | 39, _ => m_cw39
  | 40, _ => m_cw40
  | 41, _ => m_cw41
  | 42, _ => m_cw42
  | 43, _ => m_cw43
  | 44, _ => m_cw44
  | 45, _ => m_cw45
  | 46, _ => m_cw46
  | 47, _ => m_cw47
  | 48, _ => m_cw48
  | 49, _ => m_cw49
  | 50, _ => m_cw50
  | 51, _ => m_cw51
  | 52, _ => m_cw52
  | 53, _ => m_cw53
  | 54, _ => m_cw54
  | 55, _ => m_cw55
  | 56, _ => m_cw56
  | 57, _ => m_cw57
  | 58, _ => m_cw58
  | 59, _ => m_cw59
  | 60, _ => m_cw60
  | 61, _ => m_cw61
  | 62, _ => m_cw62
  | 63, _ => m_cw63
  | 64, _ => m_cw64
  | 65, _ => m_cw65
  | 66, _ => m_cw66
  | 67, _ => m_cw67
  | 68, _ => m_cw68
  | 69, _ => m_cw69
  | 70, _ => m_cw70
  | 71, _ => m_cw71
  | 72, _ => m_cw72
  | 73, _ => m_cw73
  | 74, _ => m_cw74
  | 75, _ => m_cw75
  | 76, _ => m_cw76
  | 77, _ => m_cw77
  | 78, _ => m_cw78
  | 79, _ => m_cw79
  | 80, _ => m_cw80
  | 81, _ => m_cw81
  | 82, _ => m_cw82
  | 83, _ => m_cw83
  | 84, _ => m_cw84
  | 85, _ => m_cw85
  | 86, _ => m_cw86
  | 87, _ => m_cw87
  | 88, _ => m_cw88
  | 89, _ => m_cw89
  | 90, _ => m_cw90
  | 91, _ => m_cw91
  | 92, _ => m_cw92
  | 93, _ => m_cw93
  | 94, _ => m_cw94
  | 95, _ => m_cw95
  | 96, _ => m_cw96
  | 97, _ => m_cw97
  | 98, _ => m_cw98
  | 99, _ => m_cw99
  | 100, _ => m_cw100
  | 101, _ => m_cw101
  | 102, _ => m_cw102
  | 103, _ => m_cw103
  | 104, _ => m_cw104
  | 105, _ => m_cw105
  | 106, _ => m_cw106
  | 107, _ => m_cw107
  | 108, _ => m_cw108
  | 109, _ => m_cw109
  | 110, _ => m_cw110
  | 111, _ => m_cw111
  | 112, _ => m_cw112
  | 113, _ => m_cw113
  | 114, _ => m_cw114
  | 115, _ => m_cw115
  | 116, _ => m_cw116
  | 117, _ => m_cw117
  | 118, _ => m_cw118
  | 119, _ => m_cw119
  | 120, _ => m_cw120
  | 121, _ => m_cw121
  | 122, _ => m_cw122
  | 123, _ => m_cw123
  | 124, _ => m_cw124
  | 125, _ => m_cw125
  | 126, _ => m_cw126
  | 127, _ => m_cw127
  | 128, _ => m_cw128
  | 129, _ => m_cw129
  | 130, _ => m_cw130
  | 131, _ => m_cw131
  | 132, _ => m_cw132
  | 133, _ => m_cw133
  | 134, _ => m_cw134
  | 135, _ => m_cw135
  | 136, _ => m_cw136
  | 137, _ => m_cw137
  | 138, _ => m_cw138
  | 139, _ => m_cw139
  | 140, _ => m_cw140
  | 141, _ => m_cw141
  | 142, _ => m_cw142
  | 143, _ => m_cw143
  | 144, _ => m_cw144
  | 145, _ => m_cw145
  | 146, _ => m_cw146
  | 147, _ => m_cw147
  | 148, _ => m_cw148
  | 149, _ => m_cw149
  | 150, _ => m_cw150
  | 151, _ => m_cw151
  | 152, _ => m_cw152
  | 153, _ => m_cw153
  | 154, _ => m_cw154
  | 155, _ => m_cw155
  | 156, _ => m_cw156
  | 157, _ => m_cw157
  | 158, _ => m_cw158
  | 159, _ => m_cw159
  | 160, _ => m_cw160
  | 161, _ => m_cw161
  | 162, _ => m_cw162
  | n + 163, h => absurd h (by omega)
end
section
/-- what is said of every method -/
def m_mok (q : Nat × MethodName × ByteArray × Nat × Option FieldType × Nat × Nat) : Bool :=
  goodWord (.code q.2.1 q.2.2.1 q.2.2.2.1 q.2.2.2.2.1) && plainName q.2.1.cls && decide (q.2.2.2.1 ≤ 40) && decide (q.2.2.2.2.2.1 ≤ q.2.2.2.1) && decide (q.2.1.cls = m_cR q.1)
    && (decide (q.2.2.2.2.1 = none) || decide (q.2.2.2.2.1 = some .int) || decide (q.2.2.2.2.1 = some .boolean)) && decide (q.2.1.cls ≠ "java/lang/invoke/MethodHandle") && decide (q.2.1.cls ≠ "java/lang/invoke/VarHandle")
set_option maxRecDepth 100000 in
theorem m_ms_all : m_ms.all m_mok = true := by decide +kernel
theorem m_mok_at {y : Nat} (h : y < 163) : m_mok (m_md y) = true := by
  have hl : m_ms.length = 163 := rfl
  have h1 : m_ms[y]? = some (m_ms[y]'(by rw [hl]; exact h)) := List.getElem?_eq_getElem _
  have h2 : m_md y = m_ms[y]'(by rw [hl]; exact h) := by
    unfold m_md
    rw [List.getD_eq_getElem?_getD, h1]
    rfl
  rw [h2]
  exact List.all_eq_true.mp m_ms_all _ (List.getElem_mem _)
theorem m_code_in {y : Nat} (h : y < 163) : Cond.code (m_nm y) (m_by y) (m_mx y) (m_rt y) ∈ m_tbl := by
  have h1 := m_mok_at h
  simp only [m_mok, Bool.and_eq_true] at h1
  exact m_tbl_at ⟨m_cws y h, h1.1.1.1.1.1.1.1⟩
/-- what is said of every call -/
def m_lok (q : Nat × Nat × Nat × Nat × Nat × Nat × Nat × Nat) : Bool :=
  match q.2.2.1 with
  | 0 => decide (q.2.2.2.1 < 163) && m_at q.2.2.2.2.1 (.methodLink (m_cR q.1) q.2.1 (m_nm q.2.2.2.1)) && m_at q.2.2.2.2.2.1 (.instanceMethod (m_nm q.2.2.2.1)) && m_at q.2.2.2.2.2.2.1 (.selects (m_nm q.2.2.2.1).cls (m_nm q.2.2.2.1) (m_nm q.2.2.2.1)) && m_at q.2.2.2.2.2.2.2 (.initialized (m_nm q.2.2.2.1).cls)
      && decide ((parseMethodDescriptor (m_nm q.2.2.2.1).desc).map (fun d => d.parameters.length + 1) = some (m_na q.2.2.2.1)) && decide (m_own q.2.2.2.1 < 8) && !(m_prim q.2.2.2.1)
  | 1 => decide (q.2.2.2.1 < 163) && m_at q.2.2.2.2.1 (.methodLink (m_cR q.1) q.2.1 (m_nm q.2.2.2.1)) && m_at q.2.2.2.2.2.1 (.static (m_nm q.2.2.2.1)) && m_at q.2.2.2.2.2.2.2 (.initialized (m_nm q.2.2.2.1).cls)
      && decide ((parseMethodDescriptor (m_nm q.2.2.2.1).desc).map (fun d => d.parameters.length) = some (m_na q.2.2.2.1))
  | 2 => decide (q.2.2.2.1 < 163) && m_at q.2.2.2.2.1 (.methodLink (m_cR q.1) q.2.1 (m_nm q.2.2.2.1)) && m_at q.2.2.2.2.2.1 (.instanceMethod (m_nm q.2.2.2.1)) && m_at q.2.2.2.2.2.2.2 (.initialized (m_nm q.2.2.2.1).cls)
      && decide ((parseMethodDescriptor (m_nm q.2.2.2.1).desc).map (fun d => d.parameters.length + 1) = some (m_na q.2.2.2.1)) && decide ((m_nm q.2.2.2.1).name = "<init>") && decide (m_rt q.2.2.2.1 = none) && !(m_prim q.2.2.2.1)
  | 3 => decide (q.2.2.2.1 < 163) && decide (lw_tbl[q.2.2.2.2.1]? = some (.methodLinkNest (m_cR q.1) q.2.1 (m_nm q.2.2.2.1) "QuiltPatches")) && m_at q.2.2.2.2.2.1 (.static (m_nm q.2.2.2.1)) && m_at q.2.2.2.2.2.2.2 (.initialized (m_nm q.2.2.2.1).cls)
      && decide ((parseMethodDescriptor (m_nm q.2.2.2.1).desc).map (fun d => d.parameters.length) = some (m_na q.2.2.2.1))
  | 4 => decide (q.2.2.2.1 < 163) && decide (lw_tbl[q.2.2.2.2.1]? = some (.methodLinkNest (m_cR q.1) q.2.1 (m_nm q.2.2.2.1) "QuiltPatches")) && m_at q.2.2.2.2.2.1 (.instanceMethod (m_nm q.2.2.2.1)) && m_at q.2.2.2.2.2.2.2 (.initialized (m_nm q.2.2.2.1).cls)
      && decide ((parseMethodDescriptor (m_nm q.2.2.2.1).desc).map (fun d => d.parameters.length + 1) = some (m_na q.2.2.2.1)) && decide ((m_nm q.2.2.2.1).name = "<init>") && decide (m_rt q.2.2.2.1 = none) && !(m_prim q.2.2.2.1)
  | 5 => m_at q.2.2.2.2.1 (.methodLink (m_cR q.1) q.2.1 objectInit) && m_at q.2.2.2.2.2.1 (.instanceMethod objectInit) && m_at q.2.2.2.2.2.2.1 (.code objectInit ⟨#[0xb1]⟩ 1 none)
  | 6 => m_at q.2.2.2.2.1 (.methodLink (m_cR q.1) q.2.1 arraycopyName) && m_at q.2.2.2.2.2.1 (.native arraycopyName) && m_at q.2.2.2.2.2.2.1 (.static arraycopyName) && m_at q.2.2.2.2.2.2.2 (.initialized "java/lang/System")
  | 7 => m_at q.2.2.2.2.1 (.methodLink (m_cR q.1) q.2.1 Lib.Math.max.name) && m_at q.2.2.2.2.2.1 (.static Lib.Math.max.name) && m_at q.2.2.2.2.2.2.1 (.code Lib.Math.max.name Lib.Math.max.code 2 (some .int)) && m_at q.2.2.2.2.2.2.2 (.initialized "java/lang/Math")
  | 8 => m_at q.2.2.2.2.1 (.methodLink (m_cR q.1) q.2.1 Lib.Math.min.name) && m_at q.2.2.2.2.2.1 (.static Lib.Math.min.name) && m_at q.2.2.2.2.2.2.1 (.code Lib.Math.min.name Lib.Math.min.code 2 (some .int)) && m_at q.2.2.2.2.2.2.2 (.initialized "java/lang/Math")
  | _ => false
set_option maxRecDepth 100000 in
theorem m_mls_all : m_mls.all m_lok = true := by decide +kernel
theorem m_nest_all : m_mls.all (fun q => !(q.2.2.1 == 3 || q.2.2.1 == 4) || decide (lw_tbl[q.2.2.2.2.1]? = some (.methodLinkNest (m_cR q.1) q.2.1 (m_nm q.2.2.2.1) "QuiltPatches"))) = true := by decide +kernel
theorem m_ml_ok {o x k y : Nat} (h : m_ml o x = some (k, y)) : ∃ p1 p2 p3 p4, m_lok (o, x, k, y, p1, p2, p3, p4) = true := by
  unfold m_ml at h
  cases hf : m_mls.find? (fun q => q.1 == o && q.2.1 == x) with
  | none => rw [hf] at h; cases h
  | some q =>
    rw [hf] at h
    have h1 := List.all_eq_true.mp m_mls_all q (List.mem_of_find?_eq_some hf)
    have h2 := List.find?_some hf
    obtain ⟨a, b, c2, d, p1, p2, p3, p4⟩ := q
    simp only [Bool.and_eq_true, beq_iff_eq] at h2
    obtain ⟨rfl, rfl⟩ := h2
    cases h
    exact ⟨p1, p2, p3, p4, h1⟩
end
section
/-! THE LITTLE MACHINE: ints are Int (a result outside of the 32 bits stops it), references are places in a list of cells; what it does, the real one does (part 10) -/
abbrev mV : Type := Option (Int ⊕ Nat)
abbrev mH : Type := List (Nat × List Int)
abbrev mI (k : Int) : mV := some (.inl k)
abbrev mR (a : Nat) : mV := some (.inr a)
def m_in (x : Int) : Bool := decide (-2147483648 ≤ x) && decide (x ≤ 2147483647)
def m_cmp (c : ClassFile.Cond) (a b : Int) : Bool := match c with
  | .eq => decide (a = b)
  | .ne => decide (¬ a = b)
  | .lt => decide (a < b)
  | .ge => decide (b ≤ a)
  | .gt => decide (b < a)
  | .le => decide (a ≤ b)
def m_and (a b : Int) : Int := (Int32.ofInt a &&& Int32.ofInt b).toInt
def m_or (a b : Int) : Int := (Int32.ofInt a ||| Int32.ofInt b).toInt
def m_xor (a b : Int) : Int := (Int32.ofInt a ^^^ Int32.ofInt b).toInt
def m_shl (a b : Int) : Int := (Int32.ofInt a <<< (Int32.ofInt b &&& 31)).toInt
def m_shr (a b : Int) : Int := (Int32.ofInt a >>> (Int32.ofInt b &&& 31)).toInt
def m_ushr (a b : Int) : Int := ((Int32.ofInt a).toUInt32 >>> ((Int32.ofInt b).toUInt32 &&& Int32.toUInt32 31)).toInt32.toInt
def m_jmp (pc : Nat) (off : Int) : Option Nat := if 0 ≤ (pc : Int) + off then some ((pc : Int) + off).toNat else none
def m_def (ci : Nat) : List Int := (m_tagL ci).map (fun t => if t = 2 then -1 else 0)
/-- what a slot of a kind (0 int, 1 boolean, 2 reference) gives -/
def m_ld (t : Nat) (v : Int) : Option mV := if t = 2 then (if v < 0 then none else some (mR v.toNat)) else some (mI v)
/-- what is put into a slot -/
def m_st (t : Nat) (v : mV) : Option Int := match v with
  | some (.inl k) => if t = 0 then some k else if t = 1 then (if k = 0 ∨ k = 1 then some k else none) else none
  | some (.inr a) => if t = 2 ∧ m_in (a : Int) = true then some (a : Int) else none
  | none => none
def m_bin (f : Int → Int → Int) (st : List mV) : Option (List mV) := match st with
  | some (.inl b) :: some (.inl a) :: r => if m_in (f a b) then some (mI (f a b) :: r) else none
  | _ => none
def m_set (H : mH) (a k : Nat) (v : Int) : mH := H.modify a (fun c => (c.1, c.2.set k v))
def m_aget (H : mH) (kind : Nat) (st : List mV) : Option (Int × List mV) := match st with
  | some (.inl i) :: some (.inr a) :: r => match H[a]? with
    | some (k, fs) => if k = kind ∧ 0 ≤ i then (fs[i.toNat]?).map (fun v => (v, r)) else none
    | none => none
  | _ => none
def m_aput (H : mH) (kind t : Nat) (st : List mV) : Option (List mV × mH) := match st with
  | v :: some (.inl i) :: some (.inr a) :: r => match H[a]? with
    | some (k, fs) => if k = kind ∧ 0 ≤ i ∧ i.toNat < fs.length then (m_st t v).map (fun x => (r, m_set H a i.toNat x)) else none
    | none => none
  | _ => none
def m_isL (H : mH) (v : mV) : Bool := match v with
  | some (.inr a) => match H[a]? with
    | some (k, _) => k == 2
    | none => false
  | _ => false
/-- one step of an instruction that neither calls nor returns -/
def m_next (y : Nat) (i : Instr) (len pc : Nat) (ls st : List mV) (H : mH) : Option (Nat × List mV × List mV × mH) := match i with
  | .iconst n => if m_in n then some (pc + len, ls, mI n :: st, H) else none
  | .bipush n => if -128 ≤ n ∧ n ≤ 127 then some (pc + len, ls, mI n :: st, H) else none
  | .sipush n => if -32768 ≤ n ∧ n ≤ 32767 then some (pc + len, ls, mI n :: st, H) else none
  | .ldc_w x => match m_cn (m_own y) x with
    | some v => if m_in v then some (pc + len, ls, mI v :: st, H) else none
    | none => none
  | .iload_n k => match ls[(k : Nat)]? with
    | some (some (.inl v)) => some (pc + len, ls, mI v :: st, H)
    | _ => none
  | .iload k => match ls[k]? with
    | some (some (.inl v)) => some (pc + len, ls, mI v :: st, H)
    | _ => none
  | .aload_n k => match ls[(k : Nat)]? with
    | some (some (.inr v)) => some (pc + len, ls, mR v :: st, H)
    | _ => none
  | .istore_n k => match st with
    | some (.inl v) :: r => if (k : Nat) < ls.length then some (pc + len, ls.set k (mI v), r, H) else none
    | _ => none
  | .istore k => match st with
    | some (.inl v) :: r => if k < ls.length then some (pc + len, ls.set k (mI v), r, H) else none
    | _ => none
  | .astore_n k => match st with
    | some (.inr v) :: r => if (k : Nat) < ls.length then some (pc + len, ls.set k (mR v), r, H) else none
    | _ => none
  | .iinc k n => match ls[k]? with
    | some (some (.inl v)) => if m_in (v + n) then some (pc + len, ls.set k (mI (v + n)), st, H) else none
    | _ => none
  | .iadd => (m_bin (fun a b => a + b) st).map (fun r => (pc + len, ls, r, H))
  | .isub => (m_bin (fun a b => a - b) st).map (fun r => (pc + len, ls, r, H))
  | .imul => (m_bin (fun a b => a * b) st).map (fun r => (pc + len, ls, r, H))
  | .idiv => match st with
    | some (.inl b) :: some (.inl a) :: r => if b = 0 ∨ b = -1 then none else some (pc + len, ls, mI (a.tdiv b) :: r, H)
    | _ => none
  | .irem => match st with
    | some (.inl b) :: some (.inl a) :: r => if b = 0 ∨ b = -1 then none else some (pc + len, ls, mI (a.tmod b) :: r, H)
    | _ => none
  | .iand => match st with
    | some (.inl b) :: some (.inl a) :: r => some (pc + len, ls, mI (m_and a b) :: r, H)
    | _ => none
  | .ior => match st with
    | some (.inl b) :: some (.inl a) :: r => some (pc + len, ls, mI (m_or a b) :: r, H)
    | _ => none
  | .ixor => match st with
    | some (.inl b) :: some (.inl a) :: r => some (pc + len, ls, mI (m_xor a b) :: r, H)
    | _ => none
  | .ishl => match st with
    | some (.inl b) :: some (.inl a) :: r => some (pc + len, ls, mI (m_shl a b) :: r, H)
    | _ => none
  | .ishr => match st with
    | some (.inl b) :: some (.inl a) :: r => some (pc + len, ls, mI (m_shr a b) :: r, H)
    | _ => none
  | .iushr => match st with
    | some (.inl b) :: some (.inl a) :: r => some (pc + len, ls, mI (m_ushr a b) :: r, H)
    | _ => none
  | .dup => match st with
    | some v :: r => some (pc + len, ls, some v :: some v :: r, H)
    | _ => none
  | .dup2 => match st with
    | some v :: some w :: r => some (pc + len, ls, some v :: some w :: some v :: some w :: r, H)
    | _ => none
  | .ifCond c off => match st with
    | some (.inl a) :: r => if m_cmp c a 0 then (m_jmp pc off).map (fun t => (t, ls, r, H)) else some (pc + len, ls, r, H)
    | _ => none
  | .if_icmp c off => match st with
    | some (.inl b) :: some (.inl a) :: r => if m_cmp c a b then (m_jmp pc off).map (fun t => (t, ls, r, H)) else some (pc + len, ls, r, H)
    | _ => none
  | .goto off => (m_jmp pc off).map (fun t => (t, ls, st, H))
  | .tableswitch d lo hi offs => match st with
    | some (.inl a) :: r => (if a < lo ∨ hi < a then m_jmp pc d else (offs[(a - lo).toNat]?).bind (m_jmp pc)).map (fun t => (t, ls, r, H))
    | _ => none
  | .lookupswitch d ps => match st with
    | some (.inl a) :: r => if (ps.toList.zip (ps.toList.drop 1)).all (fun (a, next) => a.1 < next.1) then (m_jmp pc (Op.lookupswitch.offset ps.toList d a)).map (fun t => (t, ls, r, H)) else none
    | _ => none
  | .getfield x => match m_fl (m_own y) x, st with
    | some (ci, k), some (.inr a) :: r => match H[a]? with
      | some (kd, fs) => if kd = ci then (match fs[k]?, (m_tagL ci)[k]? with
        | some v, some t => (m_ld t v).map (fun w => (pc + len, ls, w :: r, H))
        | _, _ => none) else none
      | none => none
    | _, _ => none
  | .putfield x => match m_fl (m_own y) x, st with
    | some (ci, k), v :: some (.inr a) :: r => match H[a]? with
      | some (kd, fs) => if kd = ci ∧ k < fs.length ∧ (((m_C ci).2.1 k).2.2.2 = true → (m_nm y).name = "<init>" ∧ m_cR (m_own y) = (m_C ci).1) then (match (m_tagL ci)[k]? with
        | some t => (m_st t v).map (fun w => (pc + len, ls, r, m_set H a k w))
        | none => none) else none
      | none => none
    | _, _ => none
  | .iaload => (m_aget H 8 st).map (fun q => (pc + len, ls, mI q.1 :: q.2, H))
  | .baload => (m_aget H 9 st).map (fun q => (pc + len, ls, mI q.1 :: q.2, H))
  | .aaload => (m_aget H 10 st).bind (fun q => (m_ld 2 q.1).map (fun w => (pc + len, ls, w :: q.2, H)))
  | .iastore => (m_aput H 8 0 st).map (fun q => (pc + len, ls, q.1, q.2))
  | .bastore => (m_aput H 9 1 st).map (fun q => (pc + len, ls, q.1, q.2))
  | .aastore => if m_isL H (st.headD none) then (m_aput H 10 2 st).map (fun q => (pc + len, ls, q.1, q.2)) else none
  | .arraylength => match st with
    | some (.inr a) :: r => match H[a]? with
      | some (kd, fs) => if (kd = 8 ∨ kd = 9 ∨ kd = 10) ∧ m_in (fs.length : Int) then some (pc + len, ls, mI (fs.length : Int) :: r, H) else none
      | none => none
    | _ => none
  | .new x => match m_cl (m_own y) x with
    | some ci => some (pc + len, ls, mR H.length :: st, H ++ [(ci, m_def ci)])
    | none => none
  | .newarray t => match st with
    | some (.inl n) :: r => if 0 ≤ n ∧ n ≤ 100000 then (match t with
      | .int => some (pc + len, ls, mR H.length :: r, H ++ [(8, List.replicate n.toNat 0)])
      | .boolean => some (pc + len, ls, mR H.length :: r, H ++ [(9, List.replicate n.toNat 0)])
      | _ => none) else none
    | _ => none
  | .anewarray x => match m_cl (m_own y) x, st with
    | some ci, some (.inl n) :: r => if ci = 2 ∧ 0 ≤ n ∧ n ≤ 100000 then some (pc + len, ls, mR H.length :: r, H ++ [(10, List.replicate n.toNat (-1))]) else none
    | _, _ => none
  | _ => none
/-- arraycopy of ints -/
def m_cpy (f g : List Int) (sp dp n : Nat) : List Int := g.take dp ++ ((f.drop sp).take n ++ g.drop (dp + n))
/-- the calls that no code of ours answers: Object.<init>, arraycopy, max, min -/
def m_blt (k : Nat) (st : List mV) (H : mH) : Option (List mV × mH) := match k with
  | 5 => match st with
    | some (.inr _) :: r => some (r, H)
    | _ => none
  | 6 => match st with
    | some (.inl n) :: some (.inl dp) :: some (.inr b) :: some (.inl sp) :: some (.inr a) :: r => match H[a]?, H[b]? with
      | some (ka, f), some (kb, g) => if ka = 8 ∧ kb = 8 ∧ 0 ≤ n ∧ 0 ≤ dp ∧ 0 ≤ sp ∧ sp + n ≤ f.length ∧ dp + n ≤ g.length then some (r, H.modify b (fun c => (c.1, m_cpy f g sp.toNat dp.toNat n.toNat))) else none
      | _, _ => none
    | _ => none
  | 7 => match st with
    | some (.inl b) :: some (.inl a) :: r => some (mI (if a < b then b else a) :: r, H)
    | _ => none
  | 8 => match st with
    | some (.inl b) :: some (.inl a) :: r => some (mI (if b < a then b else a) :: r, H)
    | _ => none
  | _ => none
/-- numbersOf (25), highestOf (27): they read a static array -/
def m_pv (y : Nat) (args : List mV) : Option mV := match args with
  | [some (.inl c)] => if y = 25 then some (mI (if c = 107 then 6 else if c = 115 ∨ c = 119 then 2 else 1)) else none
  | [some (.inl c), some (.inl i)] => if y = 27 then some (mI (if c = 107 then (if 0 ≤ i ∧ i < 6 then (if i = 4 then 5 else 9) else -1) else if c = 119 then (if i = 0 then 3 else 2) else if c = 115 then (if i = 0 then 9 else 4) else 9)) else none
  | _ => none
def m_inv (i : Instr) : Option (Nat × Nat) := match i with
  | .invokevirtual x => some (0, x)
  | .invokestatic x => some (1, x)
  | .invokespecial x => some (2, x)
  | _ => none
/-- the kind of a call fits its instruction -/
def m_fit (j k : Nat) : Bool := (j == 0 && k == 0) || (j == 1 && (k == 1 || k == 3 || k == 6 || k == 7 || k == 8)) || (j == 2 && (k == 2 || k == 4 || k == 5))
/-- the receiver is an object of the method's own class -/
def m_rcv (k y : Nat) (args : List mV) (H : mH) : Bool := match k with
  | 0 => match args with
    | some (.inr a) :: _ => match H[a]? with
      | some (kd, _) => kd == m_own y
      | none => false
    | _ => false
  | 1 => true
  | 3 => true
  | _ => match args with
    | some (.inr _) :: _ => true
    | _ => false
def m_rok (y : Nat) (v : Int) : Bool := decide (m_rt y = some .int) || (decide (m_rt y = some .boolean) && (v == 0 || v == 1))
/-- the run of a method from a place on: its answer (none: void) and the cells -/
def ev : Nat → Nat → Nat → Nat → List mV → List mV → mH → Option (mV × mH)
  | 0, _, _, _, _, _, _ => none
  | N + 1, d, y, pc, ls, st, H => match m_get y pc with
    | none => none
    | some (i, len) => match i with
      | .return_ => if st = [] ∧ m_rt y = none then some (none, H) else none
      | .ireturn => match st with
        | [some (.inl v)] => if m_rok y v then some (mI v, H) else none
        | _ => none
      | i => match m_inv i with
        | none => match m_next y i len pc ls st H with
          | some (pc', ls', st', H') => ev N d y pc' ls' st' H'
          | none => none
        | some (j, x) => match m_ml (m_own y) x, d with
          | some (k, z), d + 1 => if len = 3 ∧ m_fit j k = true then (if 5 ≤ k then (match m_blt k st H with
              | some (st', H') => if st'.length ≤ 8 then ev N (d + 1) y (pc + 3) ls st' H' else none
              | none => none)
            else if m_na z ≤ st.length ∧ (st.drop (m_na z)).length ≤ 8 ∧ m_rcv k z (st.take (m_na z)).reverse H = true then
              (if m_prim z then (match m_pv z (st.take (m_na z)).reverse with
                | some r => ev N (d + 1) y (pc + 3) ls (r :: st.drop (m_na z)) H
                | none => none)
              else match ev N d z 0 ((st.take (m_na z)).reverse ++ List.replicate (m_mx z - m_na z) none) [] H with
                | some (r, H') => ev N (d + 1) y (pc + 3) ls ((match r with
                  | none => []
                  | some v => [some v]) ++ st.drop (m_na z)) H'
                | none => none)
            else none) else none
          | _, _ => none
end
section
/-! the real machine's values and cells for the little one's -/
def m_enc (B : Nat) (v : mV) : Value := match v with
  | some (.inl k) => .int (Int32.ofInt k)
  | some (.inr a) => .ref (B + a)
  | none => .int 0
def m_encT (B t : Nat) (v : Int) : Value := if t = 2 then (if v < 0 then .null else .ref (B + v.toNat)) else .int (Int32.ofInt v)
def m_encO (B ci : Nat) (fs : List Int) : List Value := List.zipWith (m_encT B) (m_tagL ci) fs
abbrev mK : Type := ClassId × ClassId × ClassId
def m_encC (B : Nat) (K : mK) (c : Nat × List Int) : va_E :=
  if c.1 < 8 then .inr (c.1, m_encO B c.1 c.2)
  else if c.1 = 8 then .inl (K.1, c.2.length, .inl (fun j => Int32.ofInt (c.2.getD j 0)))
  else if c.1 = 9 then .inl (K.2.1, c.2.length, .inl (fun j => Int32.ofInt (c.2.getD j 0)))
  else .inl (K.2.2, c.2.length, .inr (.inr (.inr (.inr (fun j => if c.2.getD j (-1) < 0 then none else some (B + (c.2.getD j (-1)).toNat))))))
def m_ws (B : Nat) (K : mK) (H : mH) : va_W := H.mapIdx (fun k c => (B + k, m_encC B K c))
def m_tys (K : mK) : List (ClassId × FieldType) := [(K.1, .int), (K.2.1, .boolean), (K.2.2, .object "QuiltPatches$Layout")]
def m_okC (c : Nat × List Int) : Prop := (∀ v ∈ c.2, m_in v = true) ∧ c.1 ≤ 10 ∧ (c.1 < 8 → c.2.length = (m_C c.1).2.2)
def m_okH (H : mH) : Prop := ∀ c ∈ H, m_okC c
def m_okV (v : mV) : Prop := ∀ k, v = mI k → m_in k = true
def m_okS (st : List mV) : Prop := ∀ v ∈ st, m_okV v ∧ v ≠ none
def m_okL (ls : List mV) : Prop := ∀ v ∈ ls, m_okV v
def m_sz (H : mH) : Nat := (H.map (fun c => c.2.length)).sum
theorem m_in_iff {x : Int} : m_in x = true ↔ -2147483648 ≤ x ∧ x ≤ 2147483647 := by simp [m_in]
theorem m_toInt {a : Int} (h : m_in a = true) : (Int32.ofInt a).toInt = a := by
  rw [m_in_iff] at h
  exact Int32.toInt_ofInt_of_le (by omega) (by omega)
theorem m_in_toInt (x : Int32) : m_in x.toInt = true := by
  rw [m_in_iff]
  have h1 := Int32.le_toInt x
  have h2 := Int32.toInt_lt x
  constructor <;> omega
theorem m_of_toInt (x : Int32) : Int32.ofInt x.toInt = x := Int32.ofInt_toInt x
theorem m_lt {a b : Int} (ha : m_in a = true) (hb : m_in b = true) : Int32.ofInt a < Int32.ofInt b ↔ a < b := by
  rw [Int32.lt_iff_toInt_lt, m_toInt ha, m_toInt hb]
theorem m_le {a b : Int} (ha : m_in a = true) (hb : m_in b = true) : Int32.ofInt a ≤ Int32.ofInt b ↔ a ≤ b := by
  rw [Int32.le_iff_toInt_le, m_toInt ha, m_toInt hb]
theorem m_eq {a b : Int} (ha : m_in a = true) (hb : m_in b = true) : Int32.ofInt a = Int32.ofInt b ↔ a = b := by
  rw [← Int32.toInt_inj, m_toInt ha, m_toInt hb]
theorem m_in0 : m_in 0 = true := by decide
theorem m_of0 : Int32.ofInt 0 = 0 := rfl
theorem m_nat {i : Int} (h : m_in i = true) : (Int32.ofInt i).toNatClampNeg = i.toNat := by
  show (Int32.ofInt i).toInt.toNat = i.toNat
  rw [m_toInt h]
theorem m_vin {i : Int} {n : Nat} (h : m_in i = true) (h0 : 0 ≤ i) (hn : i.toNat < n) : vp_in (Int32.ofInt i) n := by
  rw [vp_in_iff, m_toInt h]
  omega
theorem m_nneg {i : Int} (h : m_in i = true) (h0 : 0 ≤ i) : ¬ Int32.ofInt i < 0 := by
  rw [← m_of0, m_lt h m_in0]
  omega
theorem m_div {a b : Int} (ha : m_in a = true) (hb : m_in b = true) (h0 : ¬ (b = 0 ∨ b = -1)) : m_in (a.tdiv b) = true ∧ Int32.ofInt (a.tdiv b) = Int32.ofInt a / Int32.ofInt b := by
  have hin : m_in (a.tdiv b) = true := by
    rw [m_in_iff] at ha ⊢
    have hb2 : 2 ≤ b.natAbs ∨ b = 1 := by omega
    have h1 : (a.tdiv b).natAbs = a.natAbs / b.natAbs := Int.natAbs_tdiv a b
    rcases hb2 with hb2 | rfl
    · have h2 : a.natAbs / b.natAbs ≤ a.natAbs / 2 := Nat.div_le_div_left hb2 (by omega)
      omega
    · simp; omega
  refine ⟨hin, ?_⟩
  rw [← Int32.toInt_inj, m_toInt hin, Int32.toInt_div, m_toInt ha, m_toInt hb]
  rw [m_in_iff] at hin
  exact (Int.bmod_eq_of_le (by omega) (by omega)).symm
theorem m_rem {a b : Int} (ha : m_in a = true) (hb : m_in b = true) (h0 : ¬ (b = 0 ∨ b = -1)) : m_in (a.tmod b) = true ∧ Int32.ofInt (a.tmod b) = Int32.ofInt a - Int32.ofInt a / Int32.ofInt b * Int32.ofInt b := by
  have h1 : a.tmod b = a - a.tdiv b * b := by
    have := Int.tmod_add_tdiv_mul a b
    omega
  constructor
  · have h2 : (a.tmod b).natAbs ≤ a.natAbs := by
      rw [Int.natAbs_tmod]
      exact Nat.mod_le _ _
    rw [m_in_iff] at ha ⊢
    have h3 : 0 ≤ a → 0 ≤ a.tmod b := fun h => Int.tmod_nonneg b h
    have h4 : a ≤ 0 → a.tmod b ≤ 0 := fun h => by
      have := Int.tmod_nonneg b (a := -a) (by omega)
      rw [Int.neg_tmod] at this
      omega
    omega
  · rw [h1, Int32.ofInt_sub, Int32.ofInt_mul, (m_div ha hb h0).2]
theorem m_ws_get {B : Nat} {K : mK} {H : mH} {a : Nat} {c : Nat × List Int} (h : H[a]? = some c) : (m_ws B K H)[a]? = some (B + a, m_encC B K c) := by
  simp [m_ws, List.getElem?_mapIdx, h]
theorem m_ws_inv {B : Nat} {K : mK} {H : mH} {k : Nat} {q : Nat × va_E} (h : (m_ws B K H)[k]? = some q) : ∃ c, H[k]? = some c ∧ q = (B + k, m_encC B K c) := by
  simp only [m_ws, List.getElem?_mapIdx, Option.map_eq_some_iff] at h
  obtain ⟨c, h1, h2⟩ := h
  exact ⟨c, h1, h2.symm⟩
theorem m_ws_D (B : Nat) (K : mK) (H : mH) : va_D (fun q => B ≤ q) (m_ws B K H) := by
  refine ⟨fun i j p q hi hj hpq => ?_, fun k q hk => ?_⟩
  · obtain ⟨c, h1, rfl⟩ := m_ws_inv hi
    obtain ⟨c', h1', rfl⟩ := m_ws_inv hj
    simp only at hpq
    omega
  · obtain ⟨c, h1, rfl⟩ := m_ws_inv hk
    exact Nat.le_add_right _ _
theorem m_ws_mod {B : Nat} {K : mK} {H : mH} {a : Nat} {c : Nat × List Int} (g : Nat × List Int → Nat × List Int) (h : H[a]? = some c) : m_ws B K (H.modify a g) = (m_ws B K H).set a (B + a, m_encC B K (g c)) := by
  apply List.ext_getElem?
  intro k
  simp only [m_ws, List.getElem?_mapIdx, List.getElem?_modify, List.getElem?_set, List.length_mapIdx]
  by_cases hk : a = k
  · subst hk
    obtain ⟨hl, he⟩ := List.getElem?_eq_some_iff.mp h
    simp [hl, he]
  · simp [hk]
theorem m_ws_app (B : Nat) (K : mK) (H : mH) (c : Nat × List Int) : m_ws B K (H ++ [c]) = m_ws B K H ++ [(B + H.length, m_encC B K c)] := by
  simp [m_ws, List.mapIdx_append]
theorem m_encO_get {B ci k t : Nat} {fs : List Int} {v : Int} (hv : fs[k]? = some v) (ht : (m_tagL ci)[k]? = some t) : (m_encO B ci fs)[k]? = some (m_encT B t v) := by
  simp [m_encO, List.getElem?_zipWith, hv, ht]
theorem m_encO_set {B ci k t : Nat} {fs : List Int} {w : Int} (ht : (m_tagL ci)[k]? = some t) (hk : k < fs.length) : (m_encO B ci fs).set k (m_encT B t w) = m_encO B ci (fs.set k w) := by
  apply List.ext_getElem?
  intro j
  by_cases hj : k = j
  · subst hj
    have h1 : k < (m_tagL ci).length := (List.getElem?_eq_some_iff.mp ht).1
    have h2 : (fs.set k w)[k]? = some w := by simp [hk]
    rw [m_encO_get h2 ht, List.getElem?_set_self]
    simp [m_encO]
    omega
  · rw [List.getElem?_set_ne hj]
    simp [m_encO, List.getElem?_zipWith, hj]
theorem m_encO_len {B ci : Nat} {fs : List Int} (h : fs.length = (m_tagL ci).length) : (m_encO B ci fs).length = fs.length := by
  simp [m_encO, h]
theorem m_sz_app (H : mH) (c : Nat × List Int) : m_sz (H ++ [c]) = m_sz H + c.2.length := by simp [m_sz]
theorem m_set_len (H : mH) (a k : Nat) (v : Int) : (m_set H a k v).length = H.length := by simp [m_set]
theorem m_modsz (H : mH) (a : Nat) (g : Nat × List Int → Nat × List Int) (hg : ∀ c, H[a]? = some c → (g c).2.length = c.2.length) : m_sz (H.modify a g) = m_sz H := by
  unfold m_sz
  congr 1
  apply List.ext_getElem?
  intro k
  simp only [List.getElem?_map, List.getElem?_modify]
  by_cases hk : a = k
  · subst hk
    cases h : H[a]? with
    | none => simp
    | some c => simp [hg c h]
  · simp [hk]
theorem m_set_sz (H : mH) (a k : Nat) (v : Int) : m_sz (m_set H a k v) = m_sz H := m_modsz H a _ (fun c _ => by simp)
theorem m_mod_ok {H : mH} {a : Nat} {g : Nat × List Int → Nat × List Int} (h : m_okH H) (hg : ∀ c, H[a]? = some c → m_okC c → m_okC (g c)) : m_okH (H.modify a g) := by
  intro c hc
  obtain ⟨k, hk⟩ := List.getElem?_of_mem hc
  rw [List.getElem?_modify] at hk
  by_cases e : a = k
  · subst e
    cases h1 : H[a]? with
    | none => simp [h1] at hk
    | some c0 =>
      simp [h1] at hk
      rw [← hk]
      exact hg c0 h1 (h c0 (List.mem_of_getElem? h1))
  · simp [e] at hk
    exact h c (List.mem_of_getElem? hk)
theorem m_set_ok {H : mH} {a k : Nat} {v : Int} (h : m_okH H) (hv : m_in v = true) : m_okH (m_set H a k v) := by
  refine m_mod_ok h (fun c _ hc => ⟨fun w hw => ?_, hc.2.1, fun h8 => ?_⟩)
  · rcases List.mem_or_eq_of_mem_set hw with hw | rfl
    · exact hc.1 w hw
    · exact hv
  · simpa using hc.2.2 h8
theorem m_app_ok {H : mH} {c : Nat × List Int} (h : m_okH H) (hc : m_okC c) : m_okH (H ++ [c]) := by
  intro x hx
  rcases List.mem_append.mp hx with hx | hx
  · exact h x hx
  · simp at hx
    rw [hx]
    exact hc
theorem m_enc_cat (B : Nat) (v : mV) : (m_enc B v).category = 1 := by
  match v with
  | some (.inl _) => rfl
  | some (.inr _) => rfl
  | none => rfl
/-- the locals -/
def m_lv (B nL : Nat) (ls : List mV) (lsr : Array Slot) : Prop := lsr.size = nL ∧ lv_wf lsr ∧ ∀ (i : Nat) (w : Int ⊕ Nat), ls[i]? = some (some w) → lsr[i]? = some (.val (m_enc B (some w)))
def m_lvl (B : Nat) (ls : List mV) : List (Nat × Value) := ls.zipIdx.filterMap (fun q => q.1.map (fun w => (q.2, m_enc B (some w))))
theorem m_lvl_mem {B : Nat} {ls : List mV} {q : Nat × Value} : q ∈ m_lvl B ls ↔ ∃ w, ls[q.1]? = some (some w) ∧ q.2 = m_enc B (some w) := by
  unfold m_lvl
  rw [List.mem_filterMap]
  constructor
  · rintro ⟨⟨v, i⟩, h1, h2⟩
    rw [List.mk_mem_zipIdx_iff_getElem?] at h1
    cases v with
    | none => cases h2
    | some w =>
      cases h2
      exact ⟨w, h1, rfl⟩
  · rintro ⟨w, h1, h2⟩
    refine ⟨(some w, q.1), List.mk_mem_zipIdx_iff_getElem?.mpr h1, ?_⟩
    rw [show q = (q.1, q.2) from rfl, h2]
    rfl
theorem m_lv_has {B nL : Nat} {ls : List mV} {lsr : Array Slot} (h : m_lv B nL ls lsr) : lv_has lsr nL (m_lvl B ls) := by
  refine ⟨h.1, h.2.1, fun q hq => ?_⟩
  obtain ⟨w, h1, h2⟩ := m_lvl_mem.mp hq
  rw [h2]
  exact h.2.2 q.1 w h1
theorem m_lv_of {B nL : Nat} {ls : List mV} {lsr : Array Slot} {l : List (Nat × Value)} (h : lv_has lsr nL l) (hs : ∀ (i : Nat) (w : Int ⊕ Nat), ls[i]? = some (some w) → (i, m_enc B (some w)) ∈ l) : m_lv B nL ls lsr :=
  ⟨h.1, h.2.1, fun i w hi => h.2.2 _ (hs i w hi)⟩
theorem m_lv_set {B nL k : Nat} {ls : List mV} {lsr : Array Slot} {w : Int ⊕ Nat} (hk : k < ls.length) (h : lv_has lsr nL ((k, m_enc B (some w)) :: (m_lvl B ls).filter (fun q => !(q.1 == k) && !(q.1 + 1 == k && q.2.category == 2)))) : m_lv B nL (ls.set k (some w)) lsr := by
  refine m_lv_of h (fun i v hi => ?_)
  by_cases e : k = i
  · subst e
    rw [List.getElem?_set_self hk] at hi
    cases hi
    exact List.mem_cons_self
  · rw [List.getElem?_set_ne e] at hi
    refine List.mem_cons_of_mem _ (List.mem_filter.mpr ⟨m_lvl_mem.mpr ⟨v, hi, rfl⟩, ?_⟩)
    have h1 : ((m_enc B (some v)).category == 2) = false := by rw [m_enc_cat]; rfl
    have h2 : (i == k) = false := by simp; omega
    simp [h1, h2]
theorem m_okS_cons {v : mV} {st : List mV} (hv : m_okV v) (hn : v ≠ none) (h : m_okS st) : m_okS (v :: st) := by
  intro x hx
  rcases List.mem_cons.mp hx with rfl | hx
  · exact ⟨hv, hn⟩
  · exact h x hx
theorem m_okS_tl {v : mV} {st : List mV} (h : m_okS (v :: st)) : m_okS st := fun x hx => h x (List.mem_cons_of_mem _ hx)
theorem m_okS_hd {k : Int} {st : List mV} (h : m_okS (mI k :: st)) : m_in k = true := (h _ List.mem_cons_self).1 k rfl
theorem m_okVI {k : Int} (h : m_in k = true) : m_okV (mI k) := fun j e => by
  have : k = j := by simpa [mI] using e
  exact this ▸ h
theorem m_okVR (a : Nat) : m_okV (mR a) := fun j e => by simp [mI, mR] at e
theorem m_okS_I {k : Int} {st : List mV} (hk : m_in k = true) (h : m_okS st) : m_okS (mI k :: st) := m_okS_cons (m_okVI hk) (by simp) h
theorem m_okS_R {a : Nat} {st : List mV} (h : m_okS st) : m_okS (mR a :: st) := m_okS_cons (m_okVR a) (by simp) h
theorem m_okL_set {k : Nat} {v : mV} {ls : List mV} (h : m_okL ls) (hv : m_okV v) : m_okL (ls.set k v) := by
  intro x hx
  rcases List.mem_or_eq_of_mem_set hx with hx | rfl
  · exact h x hx
  · exact hv
theorem m_okL_get {k : Nat} {v : Int} {ls : List mV} (h : m_okL ls) (hv : ls[k]? = some (some (.inl v))) : m_in v = true := h _ (List.mem_of_getElem? hv) v rfl
end
section
/-! each instruction: what the little machine does, the real one does -/
def m_kh (j : Nat) : Int32 := if j = 4 then 5 else 9
def m_nests (U : State) : Prop := ∀ q ∈ m_mls, (q.2.2.1 = 3 ∨ q.2.2.1 = 4) → va_Nw (.methodLinkNest (m_cR q.1) q.2.1 (m_nm q.2.2.2.1) "QuiltPatches") U
def m_env (D : va_G) (K : mK) (B kh : Nat) (U : State) (Hr : Heap) : Prop := va_K D m_classes (m_tys K) U ∧ va_AO "QuiltPatches$Layout" U ∧ m_nests U ∧ va_Z RX3 "KIND_HIGHEST" "[I" (.ref kh) (fun q => B ≤ q) U Hr ∧ va_X kh 6 m_kh U Hr ∧ kh < B
theorem m_env_go {D : va_G} {K : mK} {B kh : Nat} {s U : State} {Hr : Heap} (h : m_env D K B kh s s.heap) (hW : s.WarmedH U.vm) (hH : ∀ q, q < s.heap.size → ¬ B ≤ q → Hr[q]? = s.heap[q]?) (hB : B ≤ s.heap.size) : m_env D K B kh U Hr := by
  obtain ⟨h1, h2, h3, h4, h5, h6⟩ := h
  exact ⟨va_K.moved hW.alike h1, va_AO.moved hW.alike h2, fun q hq hk => va_Nw.warmM hW (h3 q hq hk), (va_Z.moved hW.alike h4).kept hH, (va_X.moved hW.alike h5).kept (hH kh (by omega) (by omega)), h6⟩
def m_ctx (D : va_G) (K : mK) (B kh y : Nat) (p : Program) (s : State) (m : MethodId) (args : Array Value) (meth : Method) (c : Code) : Prop :=
  p.tables.exec = Jvm.exec ∧ c.code = m_by y ∧ meth.sig.returnType = m_rt y ∧ c.maxLocals = m_mx y ∧ s.vm.findClass (m_cR (m_own y)) = some m.cls ∧ (∀ w ∈ m_tbl, w.before args s = true) ∧ meth.locks = false ∧ meth.name = (m_nm y).name ∧ m_env D K B kh s s.heap ∧ B ≤ s.heap.size
def m_rm (d mc ms : Nat) : Room := { frames := d, cells := mc, slots := ms, locals := 64 * d }
/-- the real machine comes to Q from this place -/
def m_P (l : Launch) (D : va_G) (K : mK) (B d mc ms y : Nat) (p : Program) (e : Env) (s : State) (m : MethodId) (args : Array Value) (below : List Frame) (meth : Method) (c : Code) (Q : State → Prop) (pc : Nat) (ls st : List mV) (H : mH) (k n : Nat) : Prop :=
  s.heap.size + k = B + H.length → ∀ (Hr : Heap) (locs : List Loc) (lsr : Array Slot), va_P D m_classes (m_ws B K H) Hr → va_S (fun q => B ≤ q) s.heap Hr locs → m_lv B (m_mx y) ls lsr → W p l e (m_rm d mc ms) s m args below meth c Hr locs k n Q (F0 m pc lsr (st.map (m_enc B)))
section MS
variable {l : Launch} {D : va_G} {K : mK} {B kh d mc ms y : Nat} {p : Program} {e : Env} {s : State} {m : MethodId} {args : Array Value} {below : List Frame} {meth : Method} {c : Code} {Q : State → Prop} {pc : Nat} {ls st : List mV} {H : mH} {k n : Nat}
/-- how large the real heap is -/
theorem m_size {T : State} {Hr : Heap} {locs : List Loc} (hk : s.heap.size + k = B + H.length) (hP : va_P D m_classes (m_ws B K H) Hr) (hS : va_S (fun q => B ≤ q) s.heap Hr locs) (hB : B ≤ s.heap.size) (hT : T.heap = Hr) (X : Stand p l e (m_rm d mc ms) s m args below meth c T locs k n) : Hr.size = B + H.length := by
  have h1 := X.heapSize
  rw [hT] at h1
  have h2 : B + H.length ≤ Hr.size := by
    by_cases h0 : H.length = 0
    · have := hS.1
      omega
    · have hl : H.length - 1 < H.length := by omega
      have h3 := hP (H.length - 1) _ (m_ws_get (List.getElem?_eq_getElem hl))
      have h4 := h3.lt
      simp only at h4
      omega
  omega
theorem s_iconst (hc : m_ctx D K B kh y p s m args meth c) {x : Int} (hd : decode (m_by y) pc = .ok (.iconst x, 1)) (h : m_P l D K B d mc ms y p e s m args below meth c Q (pc + 1) ls (mI x :: st) H k n) : m_P l D K B d mc ms y p e s m args below meth c Q pc ls st H k n :=
  fun hk Hr locs lsr hP hS hl => lv_iconst hc.1 hc.2.1 hd rfl (h hk Hr locs lsr hP hS hl)
theorem s_bipush (hc : m_ctx D K B kh y p s m args meth c) {x : Int} (hd : decode (m_by y) pc = .ok (.bipush x, 2)) (hx : -128 ≤ x ∧ x ≤ 127) (h : m_P l D K B d mc ms y p e s m args below meth c Q (pc + 2) ls (mI x :: st) H k n) : m_P l D K B d mc ms y p e s m args below meth c Q pc ls st H k n :=
  fun hk Hr locs lsr hP hS hl => lv_bipush hc.1 hc.2.1 hd (by rw [← Int32.toInt_inj, Int8.toInt_toInt32, Int8.toInt_ofInt_of_le (by omega) (by omega), Int32.toInt_ofInt_of_le (by omega) (by omega)]) (h hk Hr locs lsr hP hS hl)
theorem s_sipush (hc : m_ctx D K B kh y p s m args meth c) {x : Int} (hd : decode (m_by y) pc = .ok (.sipush x, 3)) (hx : -32768 ≤ x ∧ x ≤ 32767) (h : m_P l D K B d mc ms y p e s m args below meth c Q (pc + 3) ls (mI x :: st) H k n) : m_P l D K B d mc ms y p e s m args below meth c Q pc ls st H k n :=
  fun hk Hr locs lsr hP hS hl => lv_sipush hc.1 hc.2.1 hd (by rw [← Int32.toInt_inj, Int16.toInt_toInt32, Int16.toInt_ofInt_of_le (by omega) (by omega), Int32.toInt_ofInt_of_le (by omega) (by omega)]) (h hk Hr locs lsr hP hS hl)
theorem s_ldc_w (hc : m_ctx D K B kh y p s m args meth c) {x : Nat} {v : Int} (hd : decode (m_by y) pc = .ok (.ldc_w x, 3)) (hx : m_cn (m_own y) x = some v) (h : m_P l D K B d mc ms y p e s m args below meth c Q (pc + 3) ls (mI v :: st) H k n) : m_P l D K B d mc ms y p e s m args below meth c Q pc ls st H k n :=
  fun hk Hr locs lsr hP hS hl => lv_ldcw hc.1 hc.2.1 hc.2.2.2.2.1 (hc.2.2.2.2.2.1 _ (m_cn_ok hx)) hd (h hk Hr locs lsr hP hS hl)
theorem s_iload_n (hc : m_ctx D K B kh y p s m args meth c) {x : Fin 4} {v : Int} (hd : decode (m_by y) pc = .ok (.iload_n x, 1)) (hx : ls[(x : Nat)]? = some (mI v)) (h : m_P l D K B d mc ms y p e s m args below meth c Q (pc + 1) ls (mI v :: st) H k n) : m_P l D K B d mc ms y p e s m args below meth c Q pc ls st H k n :=
  fun hk Hr locs lsr hP hS hl => lv_iload_n hc.1 hc.2.1 hd rfl (hl.2.2 _ _ hx) (h hk Hr locs lsr hP hS hl)
theorem s_iload (hc : m_ctx D K B kh y p s m args meth c) {x : Nat} {v : Int} (hd : decode (m_by y) pc = .ok (.iload x, 2)) (hx : ls[x]? = some (mI v)) (h : m_P l D K B d mc ms y p e s m args below meth c Q (pc + 2) ls (mI v :: st) H k n) : m_P l D K B d mc ms y p e s m args below meth c Q pc ls st H k n :=
  fun hk Hr locs lsr hP hS hl => lv_iload hc.1 hc.2.1 hd (hl.2.2 _ _ hx) (h hk Hr locs lsr hP hS hl)
theorem s_aload_n (hc : m_ctx D K B kh y p s m args meth c) {x : Fin 4} {v : Nat} (hd : decode (m_by y) pc = .ok (.aload_n x, 1)) (hx : ls[(x : Nat)]? = some (mR v)) (h : m_P l D K B d mc ms y p e s m args below meth c Q (pc + 1) ls (mR v :: st) H k n) : m_P l D K B d mc ms y p e s m args below meth c Q pc ls st H k n :=
  fun hk Hr locs lsr hP hS hl => lv_aload_n hc.1 hc.2.1 hd rfl (hl.2.2 _ _ hx) (h hk Hr locs lsr hP hS hl)
theorem s_istore_n (hc : m_ctx D K B kh y p s m args meth c) (hL : ls.length = m_mx y) {x : Fin 4} {v : Int} (hd : decode (m_by y) pc = .ok (.istore_n x, 1)) (hx : (x : Nat) < ls.length) (h : m_P l D K B d mc ms y p e s m args below meth c Q (pc + 1) (ls.set x (mI v)) st H k n) : m_P l D K B d mc ms y p e s m args below meth c Q pc ls (mI v :: st) H k n :=
  fun hk Hr locs lsr hP hS hl => lv_istore_n hc.1 hc.2.1 hd rfl (m_lv_has hl) (hL ▸ hx) rfl (fun ls' h' => h hk Hr locs ls' hP hS (m_lv_set hx h'))
theorem s_istore (hc : m_ctx D K B kh y p s m args meth c) (hL : ls.length = m_mx y) {x : Nat} {v : Int} (hd : decode (m_by y) pc = .ok (.istore x, 2)) (hx : x < ls.length) (h : m_P l D K B d mc ms y p e s m args below meth c Q (pc + 2) (ls.set x (mI v)) st H k n) : m_P l D K B d mc ms y p e s m args below meth c Q pc ls (mI v :: st) H k n :=
  fun hk Hr locs lsr hP hS hl => lv_istore hc.1 hc.2.1 hd (m_lv_has hl) (hL ▸ hx) rfl (fun ls' h' => h hk Hr locs ls' hP hS (m_lv_set hx h'))
theorem s_astore_n (hc : m_ctx D K B kh y p s m args meth c) (hL : ls.length = m_mx y) {x : Fin 4} {v : Nat} (hd : decode (m_by y) pc = .ok (.astore_n x, 1)) (hx : (x : Nat) < ls.length) (h : m_P l D K B d mc ms y p e s m args below meth c Q (pc + 1) (ls.set x (mR v)) st H k n) : m_P l D K B d mc ms y p e s m args below meth c Q pc ls (mR v :: st) H k n :=
  fun hk Hr locs lsr hP hS hl => lv_astore_n hc.1 hc.2.1 hd rfl (m_lv_has hl) (hL ▸ hx) rfl (fun ls' h' => h hk Hr locs ls' hP hS (m_lv_set hx h'))
theorem s_iinc (hc : m_ctx D K B kh y p s m args meth c) (hL : ls.length = m_mx y) {x : Nat} {v a : Int} (hd : decode (m_by y) pc = .ok (.iinc x a, 3)) (hx : ls[x]? = some (mI v)) (h : m_P l D K B d mc ms y p e s m args below meth c Q (pc + 3) (ls.set x (mI (v + a))) st H k n) : m_P l D K B d mc ms y p e s m args below meth c Q pc ls st H k n := by
  intro hk Hr locs lsr hP hS hl
  have hlt : x < ls.length := (List.getElem?_eq_some_iff.mp hx).1
  obtain ⟨j, hj⟩ := List.getElem?_of_mem (m_lvl_mem.mpr ⟨_, hx, rfl⟩ : (x, m_enc B (mI v)) ∈ m_lvl B ls)
  exact lv_iinc (v := Int32.ofInt (v + a)) hc.1 hc.2.1 hd (m_lv_has hl) (k := j) hj (Int32.ofInt_add v a).symm (hL ▸ hlt) rfl (fun ls' h' => h hk Hr locs ls' hP hS (m_lv_set hlt h'))
theorem s_iadd (hc : m_ctx D K B kh y p s m args meth c) {a b : Int} (hd : decode (m_by y) pc = .ok (.iadd, 1)) (h : m_P l D K B d mc ms y p e s m args below meth c Q (pc + 1) ls (mI (a + b) :: st) H k n) : m_P l D K B d mc ms y p e s m args below meth c Q pc ls (mI b :: mI a :: st) H k n := by
  intro hk Hr locs lsr hP hS hl
  refine lv_iadd hc.1 hc.2.1 hd ?_
  rw [← Int32.ofInt_add]
  exact h hk Hr locs lsr hP hS hl
theorem s_isub (hc : m_ctx D K B kh y p s m args meth c) {a b : Int} (hd : decode (m_by y) pc = .ok (.isub, 1)) (h : m_P l D K B d mc ms y p e s m args below meth c Q (pc + 1) ls (mI (a - b) :: st) H k n) : m_P l D K B d mc ms y p e s m args below meth c Q pc ls (mI b :: mI a :: st) H k n := by
  intro hk Hr locs lsr hP hS hl
  refine lv_isub hc.1 hc.2.1 hd ?_
  rw [← Int32.ofInt_sub]
  exact h hk Hr locs lsr hP hS hl
theorem s_imul (hc : m_ctx D K B kh y p s m args meth c) {a b : Int} (hd : decode (m_by y) pc = .ok (.imul, 1)) (h : m_P l D K B d mc ms y p e s m args below meth c Q (pc + 1) ls (mI (a * b) :: st) H k n) : m_P l D K B d mc ms y p e s m args below meth c Q pc ls (mI b :: mI a :: st) H k n := by
  intro hk Hr locs lsr hP hS hl
  refine lv_imul hc.1 hc.2.1 hd ?_
  rw [← Int32.ofInt_mul]
  exact h hk Hr locs lsr hP hS hl
theorem s_ne0 {b : Int} (hb : m_in b = true) (h0 : ¬ (b = 0 ∨ b = -1)) : ¬ Int32.ofInt b = 0 := by
  rw [← m_of0, m_eq hb m_in0]
  omega
theorem s_idiv (hc : m_ctx D K B kh y p s m args meth c) {a b : Int} (hd : decode (m_by y) pc = .ok (.idiv, 1)) (ha : m_in a = true) (hb : m_in b = true) (h0 : ¬ (b = 0 ∨ b = -1)) (h : m_P l D K B d mc ms y p e s m args below meth c Q (pc + 1) ls (mI (a.tdiv b) :: st) H k n) : m_P l D K B d mc ms y p e s m args below meth c Q pc ls (mI b :: mI a :: st) H k n := by
  intro hk Hr locs lsr hP hS hl
  refine lv_idiv hc.1 hc.2.1 hd (s_ne0 hb h0) ?_
  rw [← (m_div ha hb h0).2]
  exact h hk Hr locs lsr hP hS hl
theorem s_irem (hc : m_ctx D K B kh y p s m args meth c) {a b : Int} (hd : decode (m_by y) pc = .ok (.irem, 1)) (ha : m_in a = true) (hb : m_in b = true) (h0 : ¬ (b = 0 ∨ b = -1)) (h : m_P l D K B d mc ms y p e s m args below meth c Q (pc + 1) ls (mI (a.tmod b) :: st) H k n) : m_P l D K B d mc ms y p e s m args below meth c Q pc ls (mI b :: mI a :: st) H k n := by
  intro hk Hr locs lsr hP hS hl
  refine lv_irem hc.1 hc.2.1 hd (s_ne0 hb h0) ?_
  rw [← (m_rem ha hb h0).2]
  exact h hk Hr locs lsr hP hS hl
theorem s_iand (hc : m_ctx D K B kh y p s m args meth c) {a b : Int} (hd : decode (m_by y) pc = .ok (.iand, 1)) (h : m_P l D K B d mc ms y p e s m args below meth c Q (pc + 1) ls (mI (m_and a b) :: st) H k n) : m_P l D K B d mc ms y p e s m args below meth c Q pc ls (mI b :: mI a :: st) H k n := by
  intro hk Hr locs lsr hP hS hl
  refine lv_iand hc.1 hc.2.1 hd ?_
  rw [← m_of_toInt (_ &&& _)]
  exact h hk Hr locs lsr hP hS hl
theorem s_ior (hc : m_ctx D K B kh y p s m args meth c) {a b : Int} (hd : decode (m_by y) pc = .ok (.ior, 1)) (h : m_P l D K B d mc ms y p e s m args below meth c Q (pc + 1) ls (mI (m_or a b) :: st) H k n) : m_P l D K B d mc ms y p e s m args below meth c Q pc ls (mI b :: mI a :: st) H k n := by
  intro hk Hr locs lsr hP hS hl
  refine lv_ior hc.1 hc.2.1 hd ?_
  rw [← m_of_toInt (_ ||| _)]
  exact h hk Hr locs lsr hP hS hl
theorem s_ixor (hc : m_ctx D K B kh y p s m args meth c) {a b : Int} (hd : decode (m_by y) pc = .ok (.ixor, 1)) (h : m_P l D K B d mc ms y p e s m args below meth c Q (pc + 1) ls (mI (m_xor a b) :: st) H k n) : m_P l D K B d mc ms y p e s m args below meth c Q pc ls (mI b :: mI a :: st) H k n := by
  intro hk Hr locs lsr hP hS hl
  refine lv_ixor hc.1 hc.2.1 hd ?_
  rw [← m_of_toInt (_ ^^^ _)]
  exact h hk Hr locs lsr hP hS hl
theorem s_ishl (hc : m_ctx D K B kh y p s m args meth c) {a b : Int} (hd : decode (m_by y) pc = .ok (.ishl, 1)) (h : m_P l D K B d mc ms y p e s m args below meth c Q (pc + 1) ls (mI (m_shl a b) :: st) H k n) : m_P l D K B d mc ms y p e s m args below meth c Q pc ls (mI b :: mI a :: st) H k n := by
  intro hk Hr locs lsr hP hS hl
  refine lv_ishl hc.1 hc.2.1 hd ?_
  rw [← m_of_toInt (_ <<< _)]
  exact h hk Hr locs lsr hP hS hl
theorem s_ishr (hc : m_ctx D K B kh y p s m args meth c) {a b : Int} (hd : decode (m_by y) pc = .ok (.ishr, 1)) (h : m_P l D K B d mc ms y p e s m args below meth c Q (pc + 1) ls (mI (m_shr a b) :: st) H k n) : m_P l D K B d mc ms y p e s m args below meth c Q pc ls (mI b :: mI a :: st) H k n := by
  intro hk Hr locs lsr hP hS hl
  refine lv_ishr hc.1 hc.2.1 hd ?_
  rw [← m_of_toInt (_ >>> _)]
  exact h hk Hr locs lsr hP hS hl
theorem s_iushr (hc : m_ctx D K B kh y p s m args meth c) {a b : Int} (hd : decode (m_by y) pc = .ok (.iushr, 1)) (h : m_P l D K B d mc ms y p e s m args below meth c Q (pc + 1) ls (mI (m_ushr a b) :: st) H k n) : m_P l D K B d mc ms y p e s m args below meth c Q pc ls (mI b :: mI a :: st) H k n :=
  fun hk Hr locs lsr hP hS hl => lv_iushr (v := Int32.ofInt (m_ushr a b)) hc.1 hc.2.1 hd (m_of_toInt _).symm (h hk Hr locs lsr hP hS hl)
theorem s_dup (hc : m_ctx D K B kh y p s m args meth c) {v : mV} (hd : decode (m_by y) pc = .ok (.dup, 1)) (h : m_P l D K B d mc ms y p e s m args below meth c Q (pc + 1) ls (v :: v :: st) H k n) : m_P l D K B d mc ms y p e s m args below meth c Q pc ls (v :: st) H k n :=
  fun hk Hr locs lsr hP hS hl => lv_dup hc.1 hc.2.1 hd (m_enc_cat B v) (h hk Hr locs lsr hP hS hl)
theorem s_dup2 (hc : m_ctx D K B kh y p s m args meth c) {v w : mV} (hd : decode (m_by y) pc = .ok (.dup2, 1)) (h : m_P l D K B d mc ms y p e s m args below meth c Q (pc + 1) ls (v :: w :: v :: w :: st) H k n) : m_P l D K B d mc ms y p e s m args below meth c Q pc ls (v :: w :: st) H k n :=
  fun hk Hr locs lsr hP hS hl => lv_dup2_11 hc.1 hc.2.1 hd (m_enc_cat B v) (m_enc_cat B w) (h hk Hr locs lsr hP hS hl)
theorem s_goto (hc : m_ctx D K B kh y p s m args meth c) {off : Int} {tgt : Nat} (hd : decode (m_by y) pc = .ok (.goto off, 3)) (ht : (pc : Int) + off = (tgt : Int)) (h : m_P l D K B d mc ms y p e s m args below meth c Q tgt ls st H k n) : m_P l D K B d mc ms y p e s m args below meth c Q pc ls st H k n :=
  fun hk Hr locs lsr hP hS hl => lv_goto hc.1 hc.2.1 hd ht (h hk Hr locs lsr hP hS hl)
theorem s_if (hc : m_ctx D K B kh y p s m args meth c) {cd : ClassFile.Cond} {off a : Int} {tgt : Nat} (hd : decode (m_by y) pc = .ok (.ifCond cd off, 3)) (ht : (pc : Int) + off = (tgt : Int)) (ha : m_in a = true) (h1 : m_cmp cd a 0 = true → m_P l D K B d mc ms y p e s m args below meth c Q tgt ls st H k n) (h2 : m_cmp cd a 0 = false → m_P l D K B d mc ms y p e s m args below meth c Q (pc + 3) ls st H k n) : m_P l D K B d mc ms y p e s m args below meth c Q pc ls (mI a :: st) H k n := by
  intro hk Hr locs lsr hP hS hl
  have j1 := fun q => h1 q hk Hr locs lsr hP hS hl
  have j2 := fun q => h2 q hk Hr locs lsr hP hS hl
  have e0 : (Int32.ofInt a = 0) ↔ a = 0 := by rw [← m_of0]; exact m_eq ha m_in0
  have e1 : (Int32.ofInt a < 0) ↔ a < 0 := by rw [← m_of0]; exact m_lt ha m_in0
  have e2 : (0 ≤ Int32.ofInt a) ↔ 0 ≤ a := by rw [← m_of0]; exact m_le m_in0 ha
  have e3 : (0 < Int32.ofInt a) ↔ 0 < a := by rw [← m_of0]; exact m_lt m_in0 ha
  have e4 : (Int32.ofInt a ≤ 0) ↔ a ≤ 0 := by rw [← m_of0]; exact m_le ha m_in0
  cases cd with
  | eq => exact lv_if_eq hc.1 hc.2.1 hd ht (fun q => j1 (by simpa [m_cmp] using e0.mp q)) (fun q => j2 (by simpa [m_cmp] using fun z => q (e0.mpr z)))
  | ne => exact lv_if_ne hc.1 hc.2.1 hd ht (fun q => j1 (by simpa [m_cmp] using fun z => q (e0.mpr z))) (fun q => j2 (by simpa [m_cmp] using e0.mp q))
  | lt => exact lv_if_lt hc.1 hc.2.1 hd ht (fun q => j1 (by simpa [m_cmp] using e1.mp q)) (fun q => j2 (by have := mt e1.mpr q; simp [m_cmp]; omega))
  | ge => exact lv_if_ge hc.1 hc.2.1 hd ht (fun q => j1 (by simpa [m_cmp] using e2.mp q)) (fun q => j2 (by have := mt e2.mpr q; simp [m_cmp]; omega))
  | gt => exact lv_if_gt hc.1 hc.2.1 hd ht (fun q => j1 (by simpa [m_cmp] using e3.mp q)) (fun q => j2 (by have := mt e3.mpr q; simp [m_cmp]; omega))
  | le => exact lv_if_le hc.1 hc.2.1 hd ht (fun q => j1 (by simpa [m_cmp] using e4.mp q)) (fun q => j2 (by have := mt e4.mpr q; simp [m_cmp]; omega))
theorem s_icmp (hc : m_ctx D K B kh y p s m args meth c) {cd : ClassFile.Cond} {off a b : Int} {tgt : Nat} (hd : decode (m_by y) pc = .ok (.if_icmp cd off, 3)) (ht : (pc : Int) + off = (tgt : Int)) (ha : m_in a = true) (hb : m_in b = true) (h1 : m_cmp cd a b = true → m_P l D K B d mc ms y p e s m args below meth c Q tgt ls st H k n) (h2 : m_cmp cd a b = false → m_P l D K B d mc ms y p e s m args below meth c Q (pc + 3) ls st H k n) : m_P l D K B d mc ms y p e s m args below meth c Q pc ls (mI b :: mI a :: st) H k n := by
  intro hk Hr locs lsr hP hS hl
  have j1 := fun q => h1 q hk Hr locs lsr hP hS hl
  have j2 := fun q => h2 q hk Hr locs lsr hP hS hl
  have e0 := m_eq ha hb
  have e1 := m_lt ha hb
  have e2 := m_le hb ha
  have e3 := m_lt hb ha
  have e4 := m_le ha hb
  cases cd with
  | eq => exact lv_icmp_eq hc.1 hc.2.1 hd ht (fun q => j1 (by simpa [m_cmp] using e0.mp q)) (fun q => j2 (by simpa [m_cmp] using fun z => q (e0.mpr z)))
  | ne => exact lv_icmp_ne hc.1 hc.2.1 hd ht (fun q => j1 (by simpa [m_cmp] using fun z => q (e0.mpr z))) (fun q => j2 (by simpa [m_cmp] using e0.mp q))
  | lt => exact lv_icmp_lt hc.1 hc.2.1 hd ht (fun q => j1 (by simpa [m_cmp] using e1.mp q)) (fun q => j2 (by have := mt e1.mpr q; simp [m_cmp]; omega))
  | ge => exact lv_icmp_ge hc.1 hc.2.1 hd ht (fun q => j1 (by simpa [m_cmp] using e2.mp q)) (fun q => j2 (by have := mt e2.mpr q; simp [m_cmp]; omega))
  | gt => exact lv_icmp_gt hc.1 hc.2.1 hd ht (fun q => j1 (by simpa [m_cmp] using e3.mp q)) (fun q => j2 (by have := mt e3.mpr q; simp [m_cmp]; omega))
  | le => exact lv_icmp_le hc.1 hc.2.1 hd ht (fun q => j1 (by simpa [m_cmp] using e4.mp q)) (fun q => j2 (by have := mt e4.mpr q; simp [m_cmp]; omega))
theorem s_table (hc : m_ctx D K B kh y p s m args meth c) {dflt lo hi a : Int} {offs : Array Int} {len tgt : Nat} (hd : decode (m_by y) pc = .ok (.tableswitch dflt lo hi offs, len)) (ha : m_in a = true) (ht : (if a < lo ∨ hi < a then m_jmp pc dflt else (offs[(a - lo).toNat]?).bind (m_jmp pc)) = some tgt) (h : m_P l D K B d mc ms y p e s m args below meth c Q tgt ls st H k n) : m_P l D K B d mc ms y p e s m args below meth c Q pc ls (mI a :: st) H k n := by
  intro hk Hr locs lsr hP hS hl
  have j := h hk Hr locs lsr hP hS hl
  have jm : ∀ (off : Int), m_jmp pc off = some tgt → (pc : Int) + off = (tgt : Int) := by
    intro off q
    unfold m_jmp at q
    split at q
    · cases q
      omega
    · cases q
  split at ht
  · exact lv_tableOut hc.1 hc.2.1 hd (by rw [m_toInt ha]; assumption) (jm _ ht) j
  · rename_i hno
    obtain ⟨off, h1, h2⟩ := Option.bind_eq_some_iff.mp ht
    exact lv_tableIn (off := off) hc.1 hc.2.1 hd (by rw [m_toInt ha]; omega) (by rw [m_toInt ha]; omega) (by rw [m_toInt ha]; exact h1) (jm _ h2) j
theorem s_lookup (hc : m_ctx D K B kh y p s m args meth c) {dflt a : Int} {ps : Array (Int × Int)} {len tgt : Nat} (hd : decode (m_by y) pc = .ok (.lookupswitch dflt ps, len)) (ha : m_in a = true) (hp : (ps.toList.zip (ps.toList.drop 1)).all (fun (a, next) => a.1 < next.1) = true) (ht : m_jmp pc (Op.lookupswitch.offset ps.toList dflt a) = some tgt) (h : m_P l D K B d mc ms y p e s m args below meth c Q tgt ls st H k n) : m_P l D K B d mc ms y p e s m args below meth c Q pc ls (mI a :: st) H k n := by
  intro hk Hr locs lsr hP hS hl
  have j := h hk Hr locs lsr hP hS hl
  unfold m_jmp at ht
  split at ht
  · cases ht
    exact lv_lookup (off := Op.lookupswitch.offset ps.toList dflt a) hc.1 hc.2.1 hd hp (by rw [m_toInt ha]) (by omega) j
  · cases ht
theorem m_ld_enc {t : Nat} {v : Int} {w : mV} (h : m_ld t v = some w) : m_enc B w = m_encT B t v := by
  unfold m_ld at h
  split at h
  · split at h
    · cases h
    · cases h
      simp [m_enc, m_encT, *]
  · cases h
    simp [m_enc, m_encT, *]
theorem m_st_enc {t : Nat} {v : mV} {x : Int} (h : m_st t v = some x) : m_enc B v = m_encT B t x := by
  unfold m_st at h
  split at h
  · split at h
    · cases h
      simp [m_enc, m_encT, *]
    · split at h
      · split at h
        · cases h
          simp [m_enc, m_encT, *]
        · cases h
      · cases h
  · split at h
    · cases h
      simp [m_enc, m_encT, *]
    · cases h
  · cases h
theorem s_getfield (hc : m_ctx D K B kh y p s m args meth c) {x ci kf a t : Nat} {fs : List Int} {v : Int} {w : mV} (hd : decode (m_by y) pc = .ok (.getfield x, 3)) (hf : m_fl (m_own y) x = some (ci, kf)) (hH : H[a]? = some (ci, fs)) (hv : fs[kf]? = some v) (ht : (m_tagL ci)[kf]? = some t) (hw : m_ld t v = some w) (h : m_P l D K B d mc ms y p e s m args below meth c Q (pc + 3) ls (w :: st) H k n) : m_P l D K B d mc ms y p e s m args below meth c Q pc ls (mR a :: st) H k n := by
  intro hk Hr locs lsr hP hS hl
  obtain ⟨h8, hkN, hlk⟩ := m_fl_ok hf
  have hws : (m_ws B K H)[a]? = some (B + a, .inr (ci, m_encO B ci fs)) := by rw [m_ws_get hH]; simp [m_encC, h8]
  refine va_get (D := D) (ci := ci) (C := (m_C ci).1) (T := (m_C ci).2.1) (N := (m_C ci).2.2) hc.1 hc.2.1 hc.2.2.2.2.2.1 (m_in_ok h8) hc.2.2.2.2.1 hc.2.2.2.2.2.2.2.2.1.1 hP a hws (m_C_get h8) kf hkN (hc.2.2.2.2.2.1 _ hlk) (fun z hz => by rw [← (m_tag_at h8 hkN).2]; exact hz) (m_encO_get hv ht) hd ?_
  rw [← m_ld_enc hw]
  exact h hk Hr locs lsr hP hS hl
theorem m_fit0 {ty : FieldType} {v : mV} {x : Int} (hx : m_st (m_tg ty) v = some x) : narrow ty (m_enc B v) = m_enc B v ∧ fits ty (m_enc B v) = true := by
  cases ty with
  | int => match v, hx with
    | some (.inl z), _ => exact ⟨rfl, rfl⟩
    | some (.inr a), hx => simp [m_st, m_tg] at hx
    | none, hx => cases hx
  | boolean => match v, hx with
    | some (.inl z), hx =>
      simp only [m_st, m_tg] at hx
      split at hx
      · omega
      · split at hx
        · split at hx
          · rename_i q
            rcases q with rfl | rfl <;> exact ⟨rfl, rfl⟩
          · cases hx
        · cases hx
    | some (.inr a), hx => simp [m_st, m_tg] at hx
    | none, hx => cases hx
  | object nm => match v, hx with
    | some (.inl z), hx => simp [m_st, m_tg] at hx
    | some (.inr a), hx => exact ⟨rfl, rfl⟩
    | none, hx => cases hx
  | array tt => match v, hx with
    | some (.inl z), hx => simp [m_st, m_tg] at hx
    | some (.inr a), hx => exact ⟨rfl, rfl⟩
    | none, hx => cases hx
  | _ => match v, hx with
    | some (.inl z), hx => simp [m_st, m_tg] at hx
    | some (.inr a), hx => simp [m_st, m_tg] at hx
    | none, hx => cases hx
theorem m_fitT {ci kf t : Nat} (h8 : ci < 8) (hkN : kf < (m_C ci).2.2) (ht : (m_tagL ci)[kf]? = some t) {v : mV} {x : Int} (hx : m_st t v = some x) : narrow (m_ty ci kf) (m_enc B v) = m_enc B v ∧ fits (m_ty ci kf) (m_enc B v) = true := by
  have h1 := (m_tag_at h8 hkN).1
  rw [ht] at h1
  have h2 : t = m_tg (m_ty ci kf) := Option.some.inj h1
  rw [h2] at hx
  exact m_fit0 hx
theorem s_putfield (hc : m_ctx D K B kh y p s m args meth c) {x ci kf a t : Nat} {fs : List Int} {v : mV} {w : Int} (hd : decode (m_by y) pc = .ok (.putfield x, 3)) (hf : m_fl (m_own y) x = some (ci, kf)) (hH : H[a]? = some (ci, fs)) (hkl : kf < fs.length) (hlen : fs.length = (m_C ci).2.2) (hfin : ((m_C ci).2.1 kf).2.2.2 = true → (m_nm y).name = "<init>" ∧ m_cR (m_own y) = (m_C ci).1) (ht : (m_tagL ci)[kf]? = some t) (hw : m_st t v = some w) (h : m_P l D K B d mc ms y p e s m args below meth c Q (pc + 3) ls st (m_set H a kf w) k n) : m_P l D K B d mc ms y p e s m args below meth c Q pc ls (v :: mR a :: st) H k n := by
  intro hk Hr locs lsr hP hS hl
  obtain ⟨h8, hkN, hlk⟩ := m_fl_ok hf
  have hws : (m_ws B K H)[a]? = some (B + a, .inr (ci, m_encO B ci fs)) := by rw [m_ws_get hH]; simp [m_encC, h8]
  obtain ⟨hn, hfit⟩ := m_fitT (B := B) h8 hkN ht hw
  have hkl' : kf < (m_encO B ci fs).length := by rw [m_encO_len (by rw [hlen, m_tag_len h8])]; exact hkl
  have hws' : m_ws B K (m_set H a kf w) = (m_ws B K H).set a (B + a, .inr (ci, (m_encO B ci fs).set kf (m_enc B v))) := by
    unfold m_set
    rw [m_ws_mod _ hH, m_st_enc hw, m_encO_set ht hkl]
    simp [m_encC, h8]
  have go : ∀ (H1 : Heap) (locs1 : List Loc), va_P D m_classes ((m_ws B K H).set a (B + a, .inr (ci, (m_encO B ci fs).set kf (m_enc B v)))) H1 → va_D (fun q => B ≤ q) ((m_ws B K H).set a (B + a, .inr (ci, (m_encO B ci fs).set kf (m_enc B v)))) → va_S (fun q => B ≤ q) s.heap H1 locs1 → W p l e (m_rm d mc ms) s m args below meth c H1 locs1 k n Q (F0 m (pc + 3) lsr (st.map (m_enc B))) := by
    intro H1 locs1 g1 g2 g3
    rw [← hws'] at g1
    exact h (by rw [m_set_len]; exact hk) H1 locs1 lsr g1 g3 hl
  by_cases hF : ((m_C ci).2.1 kf).2.2.2 = true
  · obtain ⟨hi1, hi2⟩ := hfin hF
    exact va_putF (D := D) (ci := ci) (ty := m_ty ci kf) (C := (m_C ci).1) (T := (m_C ci).2.1) (N := (m_C ci).2.2) hc.1 hc.2.1 hc.2.2.2.2.2.1 (m_in_ok h8) (m_ty ci) (m_ty_ok h8) (m_nm_ok h8) hc.2.2.2.2.1 hc.2.2.2.2.2.2.2.2.1.1 hP (m_ws_D B K H) hS a hws (m_C_get h8) kf hkN (hc.2.2.2.2.2.1 _ hlk) (fun z hz => by rw [← (m_tag_at h8 hkN).2]; exact hz) hF (by rw [hc.2.2.2.2.2.2.2.1]; exact hi1) (by rw [hi2]; exact (m_tag_at h8 hkN).2) (m_ty_ok h8 kf hkN) hn hfit hkl' hd go
  · exact va_put (D := D) (ci := ci) (ty := m_ty ci kf) (C := (m_C ci).1) (T := (m_C ci).2.1) (N := (m_C ci).2.2) hc.1 hc.2.1 hc.2.2.2.2.2.1 (m_in_ok h8) (m_ty ci) (m_ty_ok h8) (m_nm_ok h8) hc.2.2.2.2.1 hc.2.2.2.2.2.2.2.2.1.1 hP (m_ws_D B K H) hS a hws (m_C_get h8) kf hkN (hc.2.2.2.2.2.1 _ hlk) (fun z hz => by rw [← (m_tag_at h8 hkN).2]; exact hz) (by simpa using hF) (m_ty_ok h8 kf hkN) hn hfit hkl' hd go
end MS
end
section
/-! arrays, new cells, and the calls that no code of ours answers -/
theorem m_sum8 {B : Nat} (st : List mV) : ((st.map (m_enc B)).map fun v => v.category).sum = st.length := by
  induction st with
  | nil => rfl
  | cons v st ih =>
    simp only [List.map_cons, List.sum_cons, List.length_cons, m_enc_cat] at *
    omega
theorem m_getD {fs : List Int} {i : Nat} {v z : Int} (h : fs[i]? = some v) : fs.getD i z = v := by
  rw [List.getD_eq_getElem?_getD, h]; rfl
theorem m_updI {fs : List Int} {i : Nat} {v : Int} (hi : i < fs.length) : (fun j => Int32.ofInt ((fs.set i v).getD j 0)) = upd (fun j => Int32.ofInt (fs.getD j 0)) i (Int32.ofInt v) := by
  funext j
  unfold upd
  by_cases e : j = i
  · subst e
    rw [if_pos rfl, m_getD (v := v) (by simp [hi])]
  · rw [if_neg e]
    congr 1
    simp only [List.getD_eq_getElem?_getD]
    rw [List.getElem?_set_ne (Ne.symm e)]
theorem m_repl (N j : Nat) : (List.replicate N (0 : Int)).getD j 0 = 0 := by
  rw [List.getD_eq_getElem?_getD, List.getElem?_replicate]
  split <;> rfl
section MA
variable {l : Launch} {D : va_G} {K : mK} {B kh d mc ms y : Nat} {p : Program} {e : Env} {s : State} {m : MethodId} {args : Array Value} {below : List Frame} {meth : Method} {c : Code} {Q : State → Prop} {pc : Nat} {ls st : List mV} {H : mH} {k n : Nat}
theorem s_iaload (hc : m_ctx D K B kh y p s m args meth c) {a : Nat} {i v : Int} {fs : List Int} (hd : decode (m_by y) pc = .ok (.iaload, 1)) (hH : H[a]? = some (8, fs)) (hi : m_in i = true) (h0 : 0 ≤ i) (hv : fs[i.toNat]? = some v) (h : m_P l D K B d mc ms y p e s m args below meth c Q (pc + 1) ls (mI v :: st) H k n) : m_P l D K B d mc ms y p e s m args below meth c Q pc ls (mI i :: mR a :: st) H k n := by
  intro hk Hr locs lsr hP hS hl
  have hws : (m_ws B K H)[a]? = some (B + a, .inl (K.1, fs.length, .inl (fun j => Int32.ofInt (fs.getD j 0)))) := by rw [m_ws_get hH]; rfl
  refine va_iald hc.1 hc.2.1 hc.2.2.2.2.2.2.2.2.1.1 hP a 0 hws rfl (m_vin hi h0 (List.getElem?_eq_some_iff.mp hv).1) hd ?_
  rw [m_nat hi, m_getD hv]
  exact h hk Hr locs lsr hP hS hl
theorem s_baload (hc : m_ctx D K B kh y p s m args meth c) {a : Nat} {i v : Int} {fs : List Int} (hd : decode (m_by y) pc = .ok (.baload, 1)) (hH : H[a]? = some (9, fs)) (hi : m_in i = true) (h0 : 0 ≤ i) (hv : fs[i.toNat]? = some v) (h : m_P l D K B d mc ms y p e s m args below meth c Q (pc + 1) ls (mI v :: st) H k n) : m_P l D K B d mc ms y p e s m args below meth c Q pc ls (mI i :: mR a :: st) H k n := by
  intro hk Hr locs lsr hP hS hl
  have hws : (m_ws B K H)[a]? = some (B + a, .inl (K.2.1, fs.length, .inl (fun j => Int32.ofInt (fs.getD j 0)))) := by rw [m_ws_get hH]; rfl
  refine va_zald hc.1 hc.2.1 hc.2.2.2.2.2.2.2.2.1.1 hP a 1 hws rfl (m_vin hi h0 (List.getElem?_eq_some_iff.mp hv).1) hd ?_
  rw [m_nat hi, m_getD hv]
  exact h hk Hr locs lsr hP hS hl
theorem s_aaload (hc : m_ctx D K B kh y p s m args meth c) {a : Nat} {i v : Int} {w : mV} {fs : List Int} (hd : decode (m_by y) pc = .ok (.aaload, 1)) (hH : H[a]? = some (10, fs)) (hi : m_in i = true) (h0 : 0 ≤ i) (hv : fs[i.toNat]? = some v) (hw : m_ld 2 v = some w) (h : m_P l D K B d mc ms y p e s m args below meth c Q (pc + 1) ls (w :: st) H k n) : m_P l D K B d mc ms y p e s m args below meth c Q pc ls (mI i :: mR a :: st) H k n := by
  intro hk Hr locs lsr hP hS hl
  have hws : (m_ws B K H)[a]? = some (B + a, .inl (K.2.2, fs.length, .inr (.inr (.inr (.inr (fun j => if fs.getD j (-1) < 0 then none else some (B + (fs.getD j (-1)).toNat))))))) := by rw [m_ws_get hH]; rfl
  refine va_aldq (C := "QuiltPatches$Layout") hc.1 hc.2.1 hc.2.2.2.2.2.2.2.2.1.1 hP a 2 hws rfl (m_vin hi h0 (List.getElem?_eq_some_iff.mp hv).1) hd ?_
  rw [m_nat hi, m_getD hv]
  have := m_ld_enc (B := B) hw
  have e : va_rf (if v < 0 then none else some (B + v.toNat)) = m_enc B w := by
    rw [this]
    unfold m_encT
    by_cases hv0 : v < 0
    · simp [m_ld, hv0] at hw
    · simp [hv0, va_rf]
  rw [e]
  exact h hk Hr locs lsr hP hS hl
theorem s_iastore (hc : m_ctx D K B kh y p s m args meth c) {a : Nat} {i v : Int} {fs : List Int} (hd : decode (m_by y) pc = .ok (.iastore, 1)) (hH : H[a]? = some (8, fs)) (hi : m_in i = true) (h0 : 0 ≤ i) (hlt : i.toNat < fs.length) (h : m_P l D K B d mc ms y p e s m args below meth c Q (pc + 1) ls st (m_set H a i.toNat v) k n) : m_P l D K B d mc ms y p e s m args below meth c Q pc ls (mI v :: mI i :: mR a :: st) H k n := by
  intro hk Hr locs lsr hP hS hl
  have hws : (m_ws B K H)[a]? = some (B + a, .inl (K.1, fs.length, .inl (fun j => Int32.ofInt (fs.getD j 0)))) := by rw [m_ws_get hH]; rfl
  have hws' : m_ws B K (m_set H a i.toNat v) = (m_ws B K H).set a (B + a, .inl (K.1, fs.length, .inl (upd (fun j => Int32.ofInt (fs.getD j 0)) i.toNat (Int32.ofInt v)))) := by
    unfold m_set
    rw [m_ws_mod _ hH, ← m_updI hlt]
    simp [m_encC]
  refine va_iast hc.1 hc.2.1 hc.2.2.2.2.2.2.2.2.1.1 hP (m_ws_D B K H) hS a 0 hws rfl (m_vin hi h0 hlt) hd (fun H1 locs1 g1 g2 g3 => ?_)
  rw [m_nat hi, ← hws'] at g1
  exact h (by rw [m_set_len]; exact hk) H1 locs1 lsr g1 g3 hl
theorem s_bastore (hc : m_ctx D K B kh y p s m args meth c) {a : Nat} {i v : Int} {fs : List Int} (hd : decode (m_by y) pc = .ok (.bastore, 1)) (hH : H[a]? = some (9, fs)) (hi : m_in i = true) (h0 : 0 ≤ i) (hlt : i.toNat < fs.length) (hv : v = 0 ∨ v = 1) (h : m_P l D K B d mc ms y p e s m args below meth c Q (pc + 1) ls st (m_set H a i.toNat v) k n) : m_P l D K B d mc ms y p e s m args below meth c Q pc ls (mI v :: mI i :: mR a :: st) H k n := by
  intro hk Hr locs lsr hP hS hl
  have hws : (m_ws B K H)[a]? = some (B + a, .inl (K.2.1, fs.length, .inl (fun j => Int32.ofInt (fs.getD j 0)))) := by rw [m_ws_get hH]; rfl
  have hws' : m_ws B K (m_set H a i.toNat v) = (m_ws B K H).set a (B + a, .inl (K.2.1, fs.length, .inl (upd (fun j => Int32.ofInt (fs.getD j 0)) i.toNat (Int32.ofInt v)))) := by
    unfold m_set
    rw [m_ws_mod _ hH, ← m_updI hlt]
    simp [m_encC]
  have hnar : vp_nar .boolean (Int32.ofInt v) = Int32.ofInt v := by rcases hv with rfl | rfl <;> rfl
  refine va_zast hc.1 hc.2.1 hc.2.2.2.2.2.2.2.2.1.1 hP (m_ws_D B K H) hS a 1 hws rfl (m_vin hi h0 hlt) hd (fun H1 locs1 g1 g2 g3 => ?_)
  rw [m_nat hi, hnar, ← hws'] at g1
  exact h (by rw [m_set_len]; exact hk) H1 locs1 lsr g1 g3 hl
theorem s_aastore (hc : m_ctx D K B kh y p s m args meth c) {a b : Nat} {i : Int} {fs gs : List Int} (hd : decode (m_by y) pc = .ok (.aastore, 1)) (hH : H[a]? = some (10, fs)) (hb : H[b]? = some (2, gs)) (hi : m_in i = true) (h0 : 0 ≤ i) (hlt : i.toNat < fs.length) (h : m_P l D K B d mc ms y p e s m args below meth c Q (pc + 1) ls st (m_set H a i.toNat (b : Int)) k n) : m_P l D K B d mc ms y p e s m args below meth c Q pc ls (mR b :: mI i :: mR a :: st) H k n := by
  intro hk Hr locs lsr hP hS hl
  have hws : (m_ws B K H)[a]? = some (B + a, .inl (K.2.2, fs.length, .inr (.inr (.inr (.inr (fun j => if fs.getD j (-1) < 0 then none else some (B + (fs.getD j (-1)).toNat))))))) := by rw [m_ws_get hH]; rfl
  have hwb : (m_ws B K H)[b]? = some (B + b, .inr (2, m_encO B 2 gs)) := by rw [m_ws_get hb]; rfl
  have hws' : m_ws B K (m_set H a i.toNat (b : Int)) = (m_ws B K H).set a (B + a, .inl (K.2.2, fs.length, .inr (.inr (.inr (.inr (va_up (fun j => if fs.getD j (-1) < 0 then none else some (B + (fs.getD j (-1)).toNat)) i.toNat (some (B + b)))))))) := by
    unfold m_set
    rw [m_ws_mod _ hH]
    have e : (fun j => if (fs.set i.toNat (b : Int)).getD j (-1) < 0 then none else some (B + ((fs.set i.toNat (b : Int)).getD j (-1)).toNat)) = va_up (fun j => if fs.getD j (-1) < 0 then none else some (B + (fs.getD j (-1)).toNat)) i.toNat (some (B + b)) := by
      funext j
      unfold va_up
      by_cases e : j = i.toNat
      · rw [if_pos e, e, m_getD (v := (b : Int)) (by simp [hlt]), if_neg (by omega)]
        simp
      · rw [if_neg e]
        simp only [List.getD_eq_getElem?_getD]
        rw [List.getElem?_set_ne (Ne.symm e)]
    rw [← e]
    simp [m_encC]
  refine va_astq (r := m_C 2) hc.1 hc.2.1 hc.2.2.2.2.2.2.2.2.1.1 hP (m_ws_D B K H) hS a 2 b 2 hws rfl hwb (m_C_get (by decide)) (m_vin hi h0 hlt) hd (fun H1 locs1 g1 g2 g3 => ?_)
  rw [m_nat hi, ← hws'] at g1
  exact h (by rw [m_set_len]; exact hk) H1 locs1 lsr g1 g3 hl
theorem s_arraylength (hc : m_ctx D K B kh y p s m args meth c) {a kd : Nat} {fs : List Int} (hd : decode (m_by y) pc = .ok (.arraylength, 1)) (hH : H[a]? = some (kd, fs)) (hkd : kd = 8 ∨ kd = 9 ∨ kd = 10) (h : m_P l D K B d mc ms y p e s m args below meth c Q (pc + 1) ls (mI (fs.length : Int) :: st) H k n) : m_P l D K B d mc ms y p e s m args below meth c Q pc ls (mR a :: st) H k n := by
  intro hk Hr locs lsr hP hS hl
  have j := h hk Hr locs lsr hP hS hl
  rcases hkd with rfl | rfl | rfl
  · have hws : (m_ws B K H)[a]? = some (B + a, .inl (K.1, fs.length, .inl (fun j => Int32.ofInt (fs.getD j 0)))) := by rw [m_ws_get hH]; rfl
    exact va_alen hc.1 hc.2.1 hc.2.2.2.2.2.2.2.2.1.1 hP a 0 hws (ty := .int) rfl (v := Int32.ofInt (fs.length : Int)) rfl hd j
  · have hws : (m_ws B K H)[a]? = some (B + a, .inl (K.2.1, fs.length, .inl (fun j => Int32.ofInt (fs.getD j 0)))) := by rw [m_ws_get hH]; rfl
    exact va_alen hc.1 hc.2.1 hc.2.2.2.2.2.2.2.2.1.1 hP a 1 hws (ty := .boolean) rfl (v := Int32.ofInt (fs.length : Int)) rfl hd j
  · have hws : (m_ws B K H)[a]? = some (B + a, .inl (K.2.2, fs.length, .inr (.inr (.inr (.inr (fun j => if fs.getD j (-1) < 0 then none else some (B + (fs.getD j (-1)).toNat))))))) := by rw [m_ws_get hH]; rfl
    exact va_alen hc.1 hc.2.1 hc.2.2.2.2.2.2.2.2.1.1 hP a 2 hws (ty := .object "QuiltPatches$Layout") rfl (v := Int32.ofInt (fs.length : Int)) rfl hd j
theorem m_fresh {q n' : Nat} {E : va_E} {T : State} {H1 : Heap} {locs : List Loc} (hk : s.heap.size + k = B + H.length) (gP : va_P D m_classes (m_ws B K H ++ [(q, E)]) H1) (gD : va_D (fun q => B ≤ q) (m_ws B K H ++ [(q, E)])) (hT : T.heap = H1) (X : Stand p l e (m_rm d mc ms) s m args below meth c T locs (k + 1) n') : q = B + H.length := by
  have hlen : (m_ws B K H).length = H.length := by simp [m_ws]
  have hg : (m_ws B K H ++ [(q, E)])[H.length]? = some (q, E) := by
    rw [List.getElem?_append_right (by omega), hlen, Nat.sub_self]
    rfl
  have h1 : B ≤ q := gD.2 _ _ hg
  have h2 : q < H1.size := (gP _ _ hg).lt
  have h3 := X.heapSize
  rw [hT] at h3
  by_cases h4 : q < B + H.length
  · have h5 : q - B < H.length := by omega
    have h6 : (m_ws B K H ++ [(q, E)])[q - B]? = some (B + (q - B), m_encC B K H[q - B]) := by
      rw [List.getElem?_append_left (by omega)]
      exact m_ws_get (List.getElem?_eq_getElem h5)
    have h7 := gD.1 _ _ _ _ h6 hg (by simp only; omega)
    omega
  · omega
theorem s_new (hc : m_ctx D K B kh y p s m args meth c) {x ci : Nat} (hd : decode (m_by y) pc = .ok (.new x, 3)) (hx : m_cl (m_own y) x = some ci) (hkc : k + 1 ≤ mc) (hns : n + (m_C ci).2.2 ≤ ms) (h : m_P l D K B d mc ms y p e s m args below meth c Q (pc + 3) ls (mR H.length :: st) (H ++ [(ci, m_def ci)]) (k + 1) (n + (m_C ci).2.2)) : m_P l D K B d mc ms y p e s m args below meth c Q pc ls st H k n := by
  intro hk Hr locs lsr hP hS hl
  obtain ⟨h8, hlk⟩ := m_cl_ok hx
  obtain ⟨hi1, hi2⟩ := m_ins_ok h8
  have hts := hc.2.2.2.2.2.1
  have hfs : ∀ j, j < (m_C ci).2.2 → defaultValue (m_ty ci j) = vp_V (m_encO B ci (m_def ci)) j := by
    intro j hj
    have ht := (m_tag_at h8 hj).1
    have hv : (m_def ci)[j]? = some (if m_tg (m_ty ci j) = 2 then -1 else 0) := by
      unfold m_def
      rw [List.getElem?_map, ht]
      rfl
    unfold vp_V
    rw [List.getD_eq_getElem?_getD, m_encO_get hv ht]
    have hok : m_tg (m_ty ci j) ≠ 3 := by
      have h1 : ((List.range 8).all (fun ci => (List.range (m_C ci).2.2).all (fun j => m_tg (m_ty ci j) != 3))) = true := by decide +kernel
      have h2 := List.all_eq_true.mp (List.all_eq_true.mp h1 ci (List.mem_range.mpr h8)) j (List.mem_range.mpr hj)
      simpa using h2
    generalize m_ty ci j = ty at hok ⊢
    cases ty <;> first | rfl | exact absurd rfl hok
  refine va_new (ci := ci) (fs := m_encO B ci (m_def ci)) (C := (m_C ci).1) (T := (m_C ci).2.1) (N := (m_C ci).2.2) hc.1 hc.2.1 hts (m_in_ok h8) (m_ty ci) (m_ty_ok h8) hc.2.2.2.2.1 (hts _ hlk) (hts _ hi1) (hts _ hi2) hc.2.2.2.2.2.2.2.2.1.1 hP (m_ws_D B K H) hS (fun q hq => Nat.le_trans hc.2.2.2.2.2.2.2.2.2 hq) (m_C_get h8) hfs hkc hns hd (fun q H1 g1 g2 g3 => ?_)
  intro T hT X
  have hq := m_fresh hk g1 g2 hT X
  subst hq
  have g1' : va_P D m_classes (m_ws B K (H ++ [(ci, m_def ci)])) H1 := by
    rw [m_ws_app]
    simpa [m_encC, h8] using g1
  exact h (by rw [List.length_append]; simp; omega) H1 locs lsr g1' g3 hl T hT X
theorem m_cA {cA : ClassId} {ty : FieldType} {t0 : Nat} (hK : va_K D m_classes (m_tys K) s) (hK1 : va_K D m_classes (m_tys K ++ [(cA, ty)]) s) {cB : ClassId} (ht : (m_tys K)[t0]? = some (cB, ty)) : cA = cB := by
  have h1 := (hK.2 t0 _ ht).2
  have h2 := (hK1.2 3 (cA, ty) (by simp [m_tys])).2
  unfold va_RA at h1 h2
  cases ty <;> simp only at h1 h2
  all_goals first | exact Option.some.inj (h2.symm.trans h1) | skip
  obtain ⟨_, _, _, _, _, h3⟩ := h1
  obtain ⟨_, _, _, _, _, h4⟩ := h2
  exact Option.some.inj (h4.symm.trans h3)
theorem s_newI (hc : m_ctx D K B kh y p s m args meth c) {x : Int} (hd : decode (m_by y) pc = .ok (.newarray .int, 2)) (hx : 0 ≤ x ∧ x ≤ 100000) (hkc : k + 1 ≤ mc) (hns : n + x.toNat ≤ ms) (h : m_P l D K B d mc ms y p e s m args below meth c Q (pc + 2) ls (mR H.length :: st) (H ++ [(8, List.replicate x.toNat 0)]) (k + 1) (n + x.toNat)) : m_P l D K B d mc ms y p e s m args below meth c Q pc ls (mI x :: st) H k n := by
  intro hk Hr locs lsr hP hS hl
  have hin : m_in x = true := by rw [m_in_iff]; omega
  have hts := hc.2.2.2.2.2.1
  have hK := hc.2.2.2.2.2.2.2.2.1.1
  refine va_newa (atype := .int) hc.1 hc.2.1 (hts (.arrayClass .int) (m_at_in (i := 112) (by decide +kernel))) (ty := .int) rfl hK hP (m_ws_D B K H) hS (fun q hq => Nat.le_trans hc.2.2.2.2.2.2.2.2.2 hq) (N' := x.toNat) (a0 := (x.toNat, .inl (fun j => Int32.ofInt ((List.replicate x.toNat (0 : Int)).getD j 0)))) (fun cA => ?_) (m_nneg hin hx.1) (m_nat hin) (by show x.toNat * 4 ≤ _; omega) hkc hns hd (fun q cA H1 gK g1 g2 g3 => ?_)
  · rw [vp_cell_i]
    congr 1
    funext j
    rw [m_repl]
    rfl
  · intro T hT X
    have hq := m_fresh hk g1 g2 hT X
    have hcA := m_cA (t0 := 0) hK gK rfl
    subst hq; subst hcA
    have g1' : va_P D m_classes (m_ws B K (H ++ [(8, List.replicate x.toNat 0)])) H1 := by
      rw [m_ws_app]
      simpa [m_encC] using g1
    exact h (by rw [List.length_append]; simp; omega) H1 locs lsr g1' g3 hl T hT X
theorem s_newZ (hc : m_ctx D K B kh y p s m args meth c) {x : Int} (hd : decode (m_by y) pc = .ok (.newarray .boolean, 2)) (hx : 0 ≤ x ∧ x ≤ 100000) (hkc : k + 1 ≤ mc) (hns : n + x.toNat ≤ ms) (h : m_P l D K B d mc ms y p e s m args below meth c Q (pc + 2) ls (mR H.length :: st) (H ++ [(9, List.replicate x.toNat 0)]) (k + 1) (n + x.toNat)) : m_P l D K B d mc ms y p e s m args below meth c Q pc ls (mI x :: st) H k n := by
  intro hk Hr locs lsr hP hS hl
  have hin : m_in x = true := by rw [m_in_iff]; omega
  have hts := hc.2.2.2.2.2.1
  have hK := hc.2.2.2.2.2.2.2.2.1.1
  refine va_newa (atype := .boolean) hc.1 hc.2.1 (hts (.arrayClass .boolean) (m_at_in (i := 224) (by decide +kernel))) (ty := .boolean) rfl hK hP (m_ws_D B K H) hS (fun q hq => Nat.le_trans hc.2.2.2.2.2.2.2.2.2 hq) (N' := x.toNat) (a0 := (x.toNat, .inl (fun j => Int32.ofInt ((List.replicate x.toNat (0 : Int)).getD j 0)))) (fun cA => ?_) (m_nneg hin hx.1) (m_nat hin) (by show x.toNat * 1 ≤ _; omega) hkc hns hd (fun q cA H1 gK g1 g2 g3 => ?_)
  · rw [vp_cell_i]
    congr 1
    funext j
    rw [m_repl]
    rfl
  · intro T hT X
    have hq := m_fresh hk g1 g2 hT X
    have hcA := m_cA (t0 := 1) hK gK rfl
    subst hq; subst hcA
    have g1' : va_P D m_classes (m_ws B K (H ++ [(9, List.replicate x.toNat 0)])) H1 := by
      rw [m_ws_app]
      simpa [m_encC] using g1
    exact h (by rw [List.length_append]; simp; omega) H1 locs lsr g1' g3 hl T hT X
theorem s_newL (hc : m_ctx D K B kh y p s m args meth c) {i : Nat} {x : Int} (hd : decode (m_by y) pc = .ok (.anewarray i, 3)) (hi : m_cl (m_own y) i = some 2) (hx : 0 ≤ x ∧ x ≤ 100000) (hkc : k + 1 ≤ mc) (hns : n + x.toNat ≤ ms) (h : m_P l D K B d mc ms y p e s m args below meth c Q (pc + 3) ls (mR H.length :: st) (H ++ [(10, List.replicate x.toNat (-1))]) (k + 1) (n + x.toNat)) : m_P l D K B d mc ms y p e s m args below meth c Q pc ls (mI x :: st) H k n := by
  intro hk Hr locs lsr hP hS hl
  have hin : m_in x = true := by rw [m_in_iff]; omega
  have hts := hc.2.2.2.2.2.1
  have hK := hc.2.2.2.2.2.2.2.2.1.1
  obtain ⟨-, hlk⟩ := m_cl_ok hi
  refine va_newq (C := "QuiltPatches$Layout") hc.1 hc.2.1 hc.2.2.2.2.1 (hts _ hlk) hc.2.2.2.2.2.2.2.2.1.2.1 hK hP (m_ws_D B K H) hS (fun q hq => Nat.le_trans hc.2.2.2.2.2.2.2.2.2 hq) (N' := x.toNat) (m_nneg hin hx.1) (m_nat hin) (by omega) hkc hns hd (fun q cA H1 gK g1 g2 g3 => ?_)
  intro T hT X
  have hq := m_fresh hk g1 g2 hT X
  have hcA := m_cA (t0 := 2) hK gK rfl
  subst hq; subst hcA
  have e : (fun _ => none : Nat → Option Nat) = (fun j => if (List.replicate x.toNat (-1 : Int)).getD j (-1) < 0 then none else some (B + ((List.replicate x.toNat (-1 : Int)).getD j (-1)).toNat)) := by
    funext j
    have : (List.replicate x.toNat (-1 : Int)).getD j (-1) = -1 := by
      rw [List.getD_eq_getElem?_getD, List.getElem?_replicate]
      split <;> rfl
    rw [this]
    rfl
  have g1' : va_P D m_classes (m_ws B K (H ++ [(10, List.replicate x.toNat (-1))])) H1 := by
    rw [m_ws_app]
    have e2 : m_encC B K (10, List.replicate x.toNat (-1)) = .inl (K.2.2, x.toNat, .inr (.inr (.inr (.inr (fun _ => none))))) := by
      rw [e]
      simp [m_encC]
    rw [e2]
    exact g1
  exact h (by rw [List.length_append]; simp; omega) H1 locs lsr g1' g3 hl T hT X
end MA
end
section
/-! calls and contracts -/
def m_w (y : Nat) : List Cond := .code (m_nm y) (m_by y) (m_mx y) (m_rt y) :: m_tbl
def m_Pc (D : va_G) (K : mK) (B kh : Nat) (av : List mV) (H : mH) : Array Value → State → Prop := va_Pc (av.map (m_enc B)) (fun U => U.heap.size = B + H.length ∧ va_P D m_classes (m_ws B K H) U.heap ∧ m_env D K B kh U U.heap)
def m_Qc (D : va_G) (K : mK) (B : Nat) (r : mV) (H' : mH) : Array Value → State → Outcome → State → Prop := fun _ st oc t => oc = .returned (r.map (fun w => m_enc B (some w))) ∧ t.heap.size = B + H'.length ∧ va_P D m_classes (m_ws B K H') t.heap ∧ va_F (fun q => B ≤ q) st t
def m_Met (l : Launch) (D : va_G) (K : mK) (B kh d mc ms y : Nat) (av : List mV) (H : mH) (r : mV) (H' : mH) : Prop := Met l (m_nm y) (m_w y) (m_rm d mc ms) (m_Pc D K B kh av H) (m_Qc D K B r H') mc ms (fun q => B ≤ q)
theorem m_good_w {y : Nat} (h : y < 163) : GoodIn m_tbl (m_w y) := by
  intro w hw
  have h1 : w ∈ m_tbl := by
    rcases List.mem_cons.mp hw with rfl | hw
    · exact m_code_in h
    · exact hw
  exact ⟨h1, m_tbl_good h1⟩
theorem m_cR_C {o : Nat} (h : o < 8) : m_cR o = (m_C o).1 := by
  match o, h with
  | 0, _ => rfl
  | 1, _ => rfl
  | 2, _ => rfl
  | 3, _ => rfl
  | 4, _ => rfl
  | 5, _ => rfl
  | 6, _ => rfl
  | 7, _ => rfl
theorem m_mok_spec {y : Nat} (h : y < 163) : plainName (m_nm y).cls = true ∧ m_mx y ≤ 40 ∧ m_na y ≤ m_mx y ∧ (m_nm y).cls = m_cR (m_own y) ∧ (m_rt y = none ∨ m_rt y = some .int ∨ m_rt y = some .boolean) ∧ (m_nm y).cls ≠ "java/lang/invoke/MethodHandle" ∧ (m_nm y).cls ≠ "java/lang/invoke/VarHandle" := by
  have h1 := m_mok_at h
  simp only [m_mok, Bool.and_eq_true, Bool.or_eq_true, decide_eq_true_eq] at h1
  obtain ⟨⟨⟨⟨⟨⟨⟨-, a1⟩, a2⟩, a3⟩, a4⟩, a5⟩, a6⟩, a7⟩ := h1
  refine ⟨a1, a2, a3, a4, ?_, a6, a7⟩
  rcases a5 with (a5 | a5) | a5
  · exact Or.inl a5
  · exact Or.inr (Or.inl a5)
  · exact Or.inr (Or.inr a5)
theorem m_lg_len {B : Nat} (av : List mV) : (lg_sl (av.map (m_enc B))).length = av.length := by
  induction av with
  | nil => rfl
  | cons v av ih =>
    unfold lg_sl at ih ⊢
    simp only [List.map_cons, List.flatMap_cons, m_enc_cat, List.length_append, List.length_cons, ih]
    simp
    omega
theorem m_args_in {B : Nat} : ∀ (av : List mV) (i j : Nat) (v : mV), av[j]? = some v → (i + j, m_enc B v) ∈ lv_args i (av.map (m_enc B))
  | [], i, j, v, h => by simp at h
  | a :: av, i, j, v, h => by
    simp only [List.map_cons, lv_args, m_enc_cat]
    cases j with
    | zero =>
      simp at h
      subst h
      exact List.mem_cons_self
    | succ j =>
      have := m_args_in (B := B) av (i + 1) j v (by simpa using h)
      refine List.mem_cons_of_mem _ ?_
      simpa [Nat.add_assoc, Nat.add_comm 1 j] using this
theorem m_met_of {l : Launch} {D : va_G} {K : mK} {B kh d mc ms y : Nat} {av : List mV} {H : mH} {r : mV} {H' : mH} (hy : y < 163) (ha : av.length = m_na y)
    (h : ∀ (p : Program) (e : Env) (s : State) (m : MethodId) (A : Array Value) (below : List Frame) (meth : Method) (c : Code), m_ctx D K B kh y p s m A meth c → m_P l D K B d mc ms y p e s m A below meth c (MQ below (m_Qc D K B r H') A s mc ms (fun q => B ≤ q)) 0 (av ++ List.replicate (m_mx y - m_na y) none) [] H 0 0) : m_Met l D K B kh d mc ms y av H r H' := by
  obtain ⟨hpl, -, hna, hcl, -⟩ := m_mok_spec hy
  refine Met.ofW (cc := m_by y) (maxL := m_mx y) (ret := m_rt y) hpl rfl ?_
  intro p e s m A below meth c s₁ Bd hml hv
  obtain ⟨rfl, hz, hP, hE⟩ := hv
  have hts := atoms_spec (ws := m_w y) Bd.pre
  have hctx : m_ctx D K B kh y p s m (av.map (m_enc B)).toArray meth c := ⟨Bd.exec, Bd.bytes, Bd.returns, hml, hcl ▸ findClass_of_methodNamed Bd.named, fun w hw => hts w (List.mem_cons_of_mem _ hw), Bd.notSynchronized, (name_of_methodNamed Bd.named Bd.method).1, hE, by omega⟩
  rw [lg_entry_eq]
  have hl := lv_entry (av.map (m_enc B)) (n := m_mx y) (by rw [m_lg_len, ha]; exact hna)
  refine h p e s m _ below meth c hctx (by omega) s.heap [] _ hP va_S.rf (m_lv_of hl (fun i w hi => ?_))
  by_cases h1 : i < av.length
  · rw [List.getElem?_append_left h1] at hi
    have := m_args_in (B := B) av 0 i _ hi
    simpa using this
  · rw [List.getElem?_append_right (by omega), List.getElem?_replicate] at hi
    split at hi <;> cases hi
theorem m_blind {D : va_G} {K : mK} {B kh : Nat} {av : List mV} {H : mH} : FrameBlind (m_Pc D K B kh av H) := by
  intro a U g mk q
  obtain ⟨q0, q1, qP, qE⟩ := q
  exact ⟨q0, q1, qP, m_env_go (U := U.calling g mk a) qE (State.WarmedH.refl U) (fun _ _ _ => rfl) (by omega)⟩
theorem m_nest_of {U : State} (h : m_nests U) {o x k z : Nat} (hm : m_ml o x = some (k, z)) (hk : k = 3 ∨ k = 4) : va_Nw (.methodLinkNest (m_cR o) x (m_nm z) "QuiltPatches") U := by
  unfold m_ml at hm
  cases hf : m_mls.find? (fun q => q.1 == o && q.2.1 == x) with
  | none => rw [hf] at hm; cases hm
  | some q =>
    rw [hf] at hm
    have h2 := List.find?_some hf
    have h3 := h q (List.mem_of_find?_eq_some hf)
    obtain ⟨a, b, c2, d, p1, p2, p3, p4⟩ := q
    simp only [Bool.and_eq_true, beq_iff_eq] at h2
    obtain ⟨rfl, rfl⟩ := h2
    cases hm
    exact h3 hk
section MC
variable {l : Launch} {D : va_G} {K : mK} {B kh d mc ms y : Nat} {p : Program} {e : Env} {s : State} {m : MethodId} {args : Array Value} {below : List Frame} {meth : Method} {c : Code} {Q : State → Prop} {pc : Nat} {ls st : List mV} {H : mH} {k n : Nat}
/-- what is left on the stack behind a call -/
def m_push (r : mV) (rest : List mV) : List mV := (match r with
  | none => []
  | some v => [some v]) ++ rest
theorem m_push_enc (r : mV) (rest : List mV) : (m_push r rest).map (m_enc B) = (r.map (fun w => m_enc B (some w))).toList ++ rest.map (m_enc B) := by
  cases r <;> rfl
/-- behind a call, whatever its kind -/
theorem m_after {mc' ms' : Nat} {r : mV} {H1 : mH} {rest : List mV} {a : Array Value} {stv : List Value} {Hr : Heap} {locs : List Loc} {lsr : Array Slot} (hB : B ≤ s.heap.size) (hk : s.heap.size + k = B + H.length) (hlen : H1.length = H.length + mc') (hS : va_S (fun q => B ≤ q) s.heap Hr locs) (hl : m_lv B (m_mx y) ls lsr)
    (hr : va_Run p l e (m_rm (d + 1) mc ms) s m args below meth c Hr locs k n mc' ms' (F0 m pc lsr stv) (rest.map (m_enc B)) (m_Qc D K B r H1 a) (fun q => B ≤ q)) (h : m_P l D K B (d + 1) mc ms y p e s m args below meth c Q (pc + 3) ls (m_push r rest) H1 (k + mc') (n + ms')) {T : State} (hT : T.heap = Hr) (X : Stand p l e (m_rm (d + 1) mc ms) s m args below meth c T locs k n) : ∃ t, Steps p.tables e below (T.setTop (F0 m pc lsr stv)) t ∧ Q t := by
  obtain ⟨v, st₀, t, T', L, h0, X', hL, e1, e2, ⟨hv, hz1, hP1, hF1, hF2⟩, go⟩ := hr T hT X
  cases hv
  rw [h0] at hF1 hF2
  rw [← e1] at hz1 hP1 hF1 hF2
  have hS' : va_S (fun q => B ≤ q) s.heap T'.heap (locs ++ L) := by
    refine ⟨Nat.le_trans hS.1 hF1, fun q h1 h2 => ?_, fun q hq => ?_⟩
    · rw [hF2 q (Nat.lt_of_lt_of_le h1 hS.1) h2]
      exact hS.2.1 q h1 h2
    · rcases List.mem_append.mp hq with g | g
      · exact hS.2.2 q g
      · exact hL q g
  obtain ⟨t2, a1, b1⟩ := h (by omega) T'.heap (locs ++ L) lsr hP1 hS' hl T' rfl X'
  rw [m_push_enc] at a1
  exact ⟨t2, go t2 a1, b1⟩
/-- the callee's start, at the call -/
theorem m_pre {av : List mV} {Hr : Heap} {locs : List Loc} (hc : m_ctx D K B kh y p s m args meth c) (hz : Hr.size = B + H.length) (hP : va_P D m_classes (m_ws B K H) Hr) (hS : va_S (fun q => B ≤ q) s.heap Hr locs) (U : State) (hU : U.heap = Hr) (hW : s.WarmedH U.vm) : m_Pc D K B kh av H (av.map (m_enc B)).toArray U := by
  refine ⟨rfl, by rw [hU]; exact hz, by rw [hU]; exact hP, ?_⟩
  rw [hU]
  exact m_env_go hc.2.2.2.2.2.2.2.2.1 hW hS.2.1 hc.2.2.2.2.2.2.2.2.2
theorem m_room {mc' ms' z : Nat} (hz : z < 163) : (m_rm d mc' ms').frames + 1 ≤ (m_rm (d + 1) mc ms).frames ∧ 8 + (m_mx z + 11) + (m_rm d mc' ms').locals ≤ (m_rm (d + 1) mc ms).locals := by
  have := (m_mok_spec hz).2.1
  simp only [m_rm]
  omega
theorem s_callV (hc : m_ctx D K B kh y p s m args meth c) {x z a mc' ms' : Nat} {fs : List Int} {av : List mV} {r : mV} {H1 : mH} (hm : m_ml (m_own y) x = some (0, z)) (hd : decode (m_by y) pc = .ok (.invokevirtual x, 3)) (hM : m_Met l D K B kh d mc' ms' z (mR a :: av) H r H1) (ha : H[a]? = some (m_own z, fs)) (hn : (mR a :: av).length = m_na z) (h8 : st.length ≤ 8) (hmc : k + mc' ≤ mc) (hms : n + ms' ≤ ms) (hlen : H1.length = H.length + mc') (h : m_P l D K B (d + 1) mc ms y p e s m args below meth c Q (pc + 3) ls (m_push r st) H1 (k + mc') (n + ms')) : m_P l D K B (d + 1) mc ms y p e s m args below meth c Q pc ls (av.reverse ++ mR a :: st) H k n := by
  intro hk Hr locs lsr hP hS hl T hT X
  have hz := m_size hk hP hS hc.2.2.2.2.2.2.2.2.2 hT X
  obtain ⟨p1, p2, p3, p4, hlok⟩ := m_ml_ok hm
  simp only [m_lok, Bool.and_eq_true, decide_eq_true_eq] at hlok
  obtain ⟨⟨⟨⟨⟨⟨⟨hz163, w1⟩, w2⟩, w3⟩, w4⟩, hpar⟩, hown8⟩, -⟩ := hlok
  obtain ⟨-, -, -, hcl, -, hn1, hn2⟩ := m_mok_spec hz163
  have hG : GoodIn m_tbl (wsV (m_cR (m_own y)) x (m_nm z).cls (m_nm z) (m_w z)) := by
    intro w hw
    unfold wsV at hw
    rcases List.mem_append.mp hw with hw | hw
    · have hw' : w ∈ m_tbl := by
        simp only [List.mem_cons, List.not_mem_nil, or_false] at hw
        rcases hw with rfl | rfl | rfl | rfl
        · exact m_at_in w1
        · exact m_at_in w2
        · exact m_at_in w3
        · exact m_at_in w4
      exact ⟨hw', m_tbl_good hw'⟩
    · exact m_good_w hz163 w hw
  have hws : (m_ws B K H)[a]? = some (B + a, .inr (m_own z, m_encO B (m_own z) fs)) := by rw [m_ws_get ha]; simp [m_encC, hown8]
  have hrecv := va_recv hc.2.2.2.2.2.2.2.2.1.1 hP (m_C_get hown8) hws
  rw [← m_cR_C hown8, ← hcl] at hrecv
  have hp0 : (parseMethodDescriptor (m_nm z).desc).map (fun d => d.parameters.length) = some av.length := by
    cases hq : parseMethodDescriptor (m_nm z).desc with
    | none => rw [hq] at hpar; cases hpar
    | some sg =>
      rw [hq] at hpar
      simp only [Option.map_some, Option.some.injEq] at hpar ⊢
      simp only [List.length_cons] at hn
      omega
  refine m_after hc.2.2.2.2.2.2.2.2.2 hk hlen hS hl (a := (m_enc B (mR a) :: av.map (m_enc B)).toArray) (va_runV (As := av.map (m_enc B)) (nL := m_mx y) (n := av.length) ⟨hc.1, hc.2.1, hc.2.2.2.1, hc.2.2.2.2.1, hc.2.2.2.2.2.1⟩ hM (cwV av.length hc.2.2.2.2.2.1 hG rfl rfl rfl ⟨rfl, hn1, hn2, hp0⟩ (m_room hz163)) ⟨m_blind, hrecv, fun U hU hW => m_pre hc hz hP hS U hU hW⟩ rfl (by simp) hl.1 (by simp [m_enc]) (lv_room (by rw [m_sum8]; exact h8)) hd ⟨hmc, hms⟩) h hT X
theorem s_callS (hc : m_ctx D K B kh y p s m args meth c) {x z mc' ms' : Nat} {av : List mV} {r : mV} {H1 : mH} (hm : m_ml (m_own y) x = some (1, z)) (hd : decode (m_by y) pc = .ok (.invokestatic x, 3)) (hM : m_Met l D K B kh d mc' ms' z av H r H1) (hn : av.length = m_na z) (h8 : st.length ≤ 8) (hmc : k + mc' ≤ mc) (hms : n + ms' ≤ ms) (hlen : H1.length = H.length + mc') (h : m_P l D K B (d + 1) mc ms y p e s m args below meth c Q (pc + 3) ls (m_push r st) H1 (k + mc') (n + ms')) : m_P l D K B (d + 1) mc ms y p e s m args below meth c Q pc ls (av.reverse ++ st) H k n := by
  intro hk Hr locs lsr hP hS hl T hT X
  have hz := m_size hk hP hS hc.2.2.2.2.2.2.2.2.2 hT X
  obtain ⟨p1, p2, p3, p4, hlok⟩ := m_ml_ok hm
  simp only [m_lok, Bool.and_eq_true, decide_eq_true_eq] at hlok
  obtain ⟨⟨⟨⟨hz163, w1⟩, w2⟩, w4⟩, hpar⟩ := hlok
  obtain ⟨-, -, -, hcl, -, hn1, hn2⟩ := m_mok_spec hz163
  have hG : GoodIn m_tbl (va_wsS (m_cR (m_own y)) x (m_nm z) (m_w z)) := by
    intro w hw
    unfold va_wsS at hw
    rcases List.mem_append.mp hw with hw | hw
    · have hw' : w ∈ m_tbl := by
        simp only [List.mem_cons, List.not_mem_nil, or_false] at hw
        rcases hw with rfl | rfl | rfl
        · exact m_at_in w1
        · exact m_at_in w2
        · exact m_at_in w4
      exact ⟨hw', m_tbl_good hw'⟩
    · exact m_good_w hz163 w hw
  rw [← hn] at hpar
  refine m_after hc.2.2.2.2.2.2.2.2.2 hk hlen hS hl (a := (av.map (m_enc B)).toArray) (va_runS (As := av.map (m_enc B)) (nL := m_mx y) (n := av.length) ⟨hc.1, hc.2.1, hc.2.2.2.1, hc.2.2.2.2.1, hc.2.2.2.2.2.1⟩ hM (va_cwS av.length hc.2.2.2.2.2.1 hG rfl rfl rfl ⟨hn1, hn2, hpar⟩ (m_room hz163)) ⟨m_blind, fun U hU hW => m_pre hc hz hP hS U hU hW⟩ rfl (by simp) hl.1 (by simp) (lv_room (by rw [m_sum8]; exact h8)) hd ⟨hmc, hms⟩) h hT X
theorem s_callSN (hc : m_ctx D K B kh y p s m args meth c) {x z mc' ms' : Nat} {av : List mV} {r : mV} {H1 : mH} (hm : m_ml (m_own y) x = some (3, z)) (hd : decode (m_by y) pc = .ok (.invokestatic x, 3)) (hM : m_Met l D K B kh d mc' ms' z av H r H1) (hn : av.length = m_na z) (h8 : st.length ≤ 8) (hmc : k + mc' ≤ mc) (hms : n + ms' ≤ ms) (hlen : H1.length = H.length + mc') (h : m_P l D K B (d + 1) mc ms y p e s m args below meth c Q (pc + 3) ls (m_push r st) H1 (k + mc') (n + ms')) : m_P l D K B (d + 1) mc ms y p e s m args below meth c Q pc ls (av.reverse ++ st) H k n := by
  intro hk Hr locs lsr hP hS hl T hT X
  have hz := m_size hk hP hS hc.2.2.2.2.2.2.2.2.2 hT X
  have hnw : va_Nw (.methodLinkNest (m_cR (m_own y)) x (m_nm z) "QuiltPatches") s := m_nest_of hc.2.2.2.2.2.2.2.2.1.2.2.1 hm (Or.inl rfl)
  obtain ⟨p1, p2, p3, p4, hlok⟩ := m_ml_ok hm
  simp only [m_lok, Bool.and_eq_true, decide_eq_true_eq] at hlok
  obtain ⟨⟨⟨⟨hz163, w1⟩, w2⟩, w4⟩, hpar⟩ := hlok
  obtain ⟨-, -, -, hcl, -, hn1, hn2⟩ := m_mok_spec hz163
  rw [← hn] at hpar
  have hts := hc.2.2.2.2.2.1
  refine m_after hc.2.2.2.2.2.2.2.2.2 hk hlen hS hl (a := (av.map (m_enc B)).toArray) (va_runSN (As := av.map (m_enc B)) (nL := m_mx y) (n := av.length) ⟨hc.1, hc.2.1, hc.2.2.2.1, hc.2.2.2.2.1, hts⟩ hM ⟨va_cnB av.length hts (m_good_w hz163) rfl rfl rfl hnw (hts _ (m_at_in w4)) ⟨hn1, hn2, hpar⟩ (m_room hz163), hts _ (m_at_in w2), trivial⟩ ⟨m_blind, fun U hU hW => m_pre hc hz hP hS U hU hW⟩ rfl (by simp) hl.1 (by simp) (lv_room (by rw [m_sum8]; exact h8)) hd ⟨hmc, hms⟩) h hT X
theorem s_callI (hc : m_ctx D K B kh y p s m args meth c) {x z a mc' ms' : Nat} {av : List mV} {r : mV} {H1 : mH} (hm : m_ml (m_own y) x = some (2, z)) (hd : decode (m_by y) pc = .ok (.invokespecial x, 3)) (hM : m_Met l D K B kh d mc' ms' z (mR a :: av) H r H1) (hn : (mR a :: av).length = m_na z) (h8 : st.length ≤ 8) (hmc : k + mc' ≤ mc) (hms : n + ms' ≤ ms) (hlen : H1.length = H.length + mc') (h : m_P l D K B (d + 1) mc ms y p e s m args below meth c Q (pc + 3) ls (m_push r st) H1 (k + mc') (n + ms')) : m_P l D K B (d + 1) mc ms y p e s m args below meth c Q pc ls (av.reverse ++ mR a :: st) H k n := by
  intro hk Hr locs lsr hP hS hl T hT X
  have hz := m_size hk hP hS hc.2.2.2.2.2.2.2.2.2 hT X
  obtain ⟨p1, p2, p3, p4, hlok⟩ := m_ml_ok hm
  simp only [m_lok, Bool.and_eq_true, decide_eq_true_eq] at hlok
  obtain ⟨⟨⟨⟨⟨⟨⟨hz163, w1⟩, w2⟩, w4⟩, hpar⟩, hini⟩, hrt⟩, -⟩ := hlok
  obtain ⟨-, -, -, hcl, -, hn1, hn2⟩ := m_mok_spec hz163
  have hts := hc.2.2.2.2.2.1
  have hp0 : (parseMethodDescriptor (m_nm z).desc).map (fun d => d.parameters.length) = some av.length := by
    cases hq : parseMethodDescriptor (m_nm z).desc with
    | none => rw [hq] at hpar; cases hpar
    | some sg =>
      rw [hq] at hpar
      simp only [Option.map_some, Option.some.injEq] at hpar ⊢
      simp only [List.length_cons] at hn
      omega
  refine m_after hc.2.2.2.2.2.2.2.2.2 hk hlen hS hl (a := (m_enc B (mR a) :: av.map (m_enc B)).toArray) (va_runI (As := av.map (m_enc B)) (bytes := m_by z) (maxL := m_mx z) (nL := m_mx y) (n := av.length) ⟨hc.1, hc.2.1, hc.2.2.2.1, hc.2.2.2.2.1, hts⟩ hM (cwI (ws' := m_tbl) av.length hts (m_good_w hz163) (by unfold m_w; rw [hrt]) rfl rfl (hts _ (m_at_in w4)) (hts _ (m_at_in w1)) (hts _ (m_at_in w2)) hini ⟨hn1, hn2, hp0⟩ (m_room hz163)) ⟨m_blind, fun U hU hW => m_pre hc hz hP hS U hU hW⟩ rfl (by simp) hl.1 (by simp [m_enc]) (lv_room (by rw [m_sum8]; exact h8)) hd ⟨hmc, hms⟩) h hT X
theorem s_callIN (hc : m_ctx D K B kh y p s m args meth c) {x z a mc' ms' : Nat} {av : List mV} {r : mV} {H1 : mH} (hm : m_ml (m_own y) x = some (4, z)) (hd : decode (m_by y) pc = .ok (.invokespecial x, 3)) (hM : m_Met l D K B kh d mc' ms' z (mR a :: av) H r H1) (hn : (mR a :: av).length = m_na z) (h8 : st.length ≤ 8) (hmc : k + mc' ≤ mc) (hms : n + ms' ≤ ms) (hlen : H1.length = H.length + mc') (h : m_P l D K B (d + 1) mc ms y p e s m args below meth c Q (pc + 3) ls (m_push r st) H1 (k + mc') (n + ms')) : m_P l D K B (d + 1) mc ms y p e s m args below meth c Q pc ls (av.reverse ++ mR a :: st) H k n := by
  intro hk Hr locs lsr hP hS hl T hT X
  have hz := m_size hk hP hS hc.2.2.2.2.2.2.2.2.2 hT X
  have hnw : va_Nw (.methodLinkNest (m_cR (m_own y)) x (m_nm z) "QuiltPatches") s := m_nest_of hc.2.2.2.2.2.2.2.2.1.2.2.1 hm (Or.inr rfl)
  obtain ⟨p1, p2, p3, p4, hlok⟩ := m_ml_ok hm
  simp only [m_lok, Bool.and_eq_true, decide_eq_true_eq] at hlok
  obtain ⟨⟨⟨⟨⟨⟨⟨hz163, w1⟩, w2⟩, w4⟩, hpar⟩, hini⟩, hrt⟩, -⟩ := hlok
  obtain ⟨-, -, -, hcl, -, hn1, hn2⟩ := m_mok_spec hz163
  have hts := hc.2.2.2.2.2.1
  have hp0 : (parseMethodDescriptor (m_nm z).desc).map (fun d => d.parameters.length) = some av.length := by
    cases hq : parseMethodDescriptor (m_nm z).desc with
    | none => rw [hq] at hpar; cases hpar
    | some sg =>
      rw [hq] at hpar
      simp only [Option.map_some, Option.some.injEq] at hpar ⊢
      simp only [List.length_cons] at hn
      omega
  refine m_after hc.2.2.2.2.2.2.2.2.2 hk hlen hS hl (a := (m_enc B (mR a) :: av.map (m_enc B)).toArray) (va_runIN (As := av.map (m_enc B)) (bytes := m_by z) (maxL := m_mx z) (nL := m_mx y) (n := av.length) ⟨hc.1, hc.2.1, hc.2.2.2.1, hc.2.2.2.2.1, hts⟩ hM ⟨va_cnB (ws' := m_tbl) av.length hts (m_good_w hz163) (by unfold m_w; rw [hrt]) rfl rfl hnw (hts _ (m_at_in w4)) ⟨hn1, hn2, hp0⟩ (m_room hz163), hini, hts _ (m_at_in w2)⟩ ⟨m_blind, fun U hU hW => m_pre hc hz hP hS U hU hW⟩ rfl (by simp) hl.1 (by simp [m_enc]) (lv_room (by rw [m_sum8]; exact h8)) hd ⟨hmc, hms⟩) h hT X
theorem s_objInit (hc : m_ctx D K B kh y p s m args meth c) {x z a : Nat} (hm : m_ml (m_own y) x = some (5, z)) (hd : decode (m_by y) pc = .ok (.invokespecial x, 3)) (h8 : st.length ≤ 8) (h : m_P l D K B (d + 1) mc ms y p e s m args below meth c Q (pc + 3) ls st H k n) : m_P l D K B (d + 1) mc ms y p e s m args below meth c Q pc ls (mR a :: st) H k n := by
  intro hk Hr locs lsr hP hS hl
  obtain ⟨p1, p2, p3, p4, hlok⟩ := m_ml_ok hm
  simp only [m_lok, Bool.and_eq_true] at hlok
  have hts := hc.2.2.2.2.2.1
  exact W.objInit hc.1 hc.2.1 hc.2.2.2.2.1 (hts _ (m_at_in hlok.1.1)) (hts _ (m_at_in hlok.1.2)) (hts _ (m_at_in hlok.2)) rfl (by rw [hc.2.2.2.1]; exact hl.1) (rest := st.map (m_enc B)) rfl hd (by simp [m_rm]) (by
    show 2 * 0 + _ + 12 ≤ 64 * (d + 1)
    rw [m_sum8]; omega) (h hk Hr locs lsr hP hS hl)
theorem s_max (hc : m_ctx D K B kh y p s m args meth c) {x z : Nat} {a b : Int} (hm : m_ml (m_own y) x = some (7, z)) (hd : decode (m_by y) pc = .ok (.invokestatic x, 3)) (ha : m_in a = true) (hb : m_in b = true) (h8 : st.length ≤ 8) (hkc : k ≤ mc) (hns : n ≤ ms) (h : m_P l D K B (d + 1) mc ms y p e s m args below meth c Q (pc + 3) ls (mI (if a < b then b else a) :: st) H k n) : m_P l D K B (d + 1) mc ms y p e s m args below meth c Q pc ls (mI b :: mI a :: st) H k n := by
  intro hk Hr locs lsr hP hS hl
  obtain ⟨p1, p2, p3, p4, hlok⟩ := m_ml_ok hm
  simp only [m_lok, Bool.and_eq_true] at hlok
  have hts := hc.2.2.2.2.2.1
  refine va_mmax hc.1 hc.2.1 (by rw [hc.2.2.2.1]; exact hl.1.symm) hc.2.2.2.2.1 (hts _ (m_at_in hlok.1.1.1)) (hts _ (m_at_in hlok.1.1.2)) (hts _ (m_at_in hlok.2)) (hts _ (m_at_in hlok.1.2)) (by simp [m_rm]) (by
    show _ + 13 ≤ 64 * (d + 1)
    rw [m_sum8]; omega) hkc hns hd ?_
  have e1 : (if Int32.ofInt a < Int32.ofInt b then Int32.ofInt b else Int32.ofInt a) = Int32.ofInt (if a < b then b else a) := by
    by_cases hab : a < b
    · rw [if_pos hab, if_pos ((m_lt ha hb).mpr hab)]
    · rw [if_neg hab, if_neg (mt (m_lt ha hb).mp hab)]
  rw [e1]
  exact h hk Hr locs lsr hP hS hl
theorem s_min (hc : m_ctx D K B kh y p s m args meth c) {x z : Nat} {a b : Int} (hm : m_ml (m_own y) x = some (8, z)) (hd : decode (m_by y) pc = .ok (.invokestatic x, 3)) (ha : m_in a = true) (hb : m_in b = true) (h8 : st.length ≤ 8) (hkc : k ≤ mc) (hns : n ≤ ms) (h : m_P l D K B (d + 1) mc ms y p e s m args below meth c Q (pc + 3) ls (mI (if b < a then b else a) :: st) H k n) : m_P l D K B (d + 1) mc ms y p e s m args below meth c Q pc ls (mI b :: mI a :: st) H k n := by
  intro hk Hr locs lsr hP hS hl
  obtain ⟨p1, p2, p3, p4, hlok⟩ := m_ml_ok hm
  simp only [m_lok, Bool.and_eq_true] at hlok
  have hts := hc.2.2.2.2.2.1
  refine va_mmin hc.1 hc.2.1 (by rw [hc.2.2.2.1]; exact hl.1.symm) hc.2.2.2.2.1 (hts _ (m_at_in hlok.1.1.1)) (hts _ (m_at_in hlok.1.1.2)) (hts _ (m_at_in hlok.2)) (hts _ (m_at_in hlok.1.2)) (by simp [m_rm]) (by
    show _ + 13 ≤ 64 * (d + 1)
    rw [m_sum8]; omega) hkc hns hd ?_
  have e1 : (if Int32.ofInt b < Int32.ofInt a then Int32.ofInt b else Int32.ofInt a) = Int32.ofInt (if b < a then b else a) := by
    by_cases hab : b < a
    · rw [if_pos hab, if_pos ((m_lt hb ha).mpr hab)]
    · rw [if_neg hab, if_neg (mt (m_lt hb ha).mp hab)]
  rw [e1]
  exact h hk Hr locs lsr hP hS hl
theorem m_cpy_len {f g : List Int} {sp dp n : Nat} (h1 : sp + n ≤ f.length) (h2 : dp + n ≤ g.length) : (m_cpy f g sp dp n).length = g.length := by
  simp [m_cpy]
  omega
theorem m_cpy_va {f g : List Int} {sp dp n : Nat} (h1 : sp + n ≤ f.length) (h2 : dp + n ≤ g.length) : (fun j => Int32.ofInt ((m_cpy f g sp dp n).getD j 0)) = va_cpy (fun j => Int32.ofInt (f.getD j 0)) (fun j => Int32.ofInt (g.getD j 0)) sp dp n := by
  funext j
  have ht : (g.take dp).length = dp := by simp; omega
  have ht2 : ((f.drop sp).take n).length = n := by simp; omega
  by_cases hj : dp ≤ j ∧ j < dp + n
  · rw [pk_cpy_in hj.1 hj.2]
    congr 1
    simp only [m_cpy, List.getD_eq_getElem?_getD]
    rw [List.getElem?_append_right (by omega), List.getElem?_append_left (by omega), ht, List.getElem?_take, if_pos (by omega), List.getElem?_drop]
  · rw [pk_cpy_out (by omega)]
    congr 1
    simp only [m_cpy, List.getD_eq_getElem?_getD]
    by_cases hj2 : j < dp
    · rw [List.getElem?_append_left (by omega), List.getElem?_take, if_pos hj2]
    · rw [List.getElem?_append_right (by omega), List.getElem?_append_right (by omega), List.getElem?_drop, ht, ht2]
      congr 2
      omega
theorem s_copy (hc : m_ctx D K B kh y p s m args meth c) {x z a b : Nat} {nn dp sp : Int} {f g : List Int} (hm : m_ml (m_own y) x = some (6, z)) (hd : decode (m_by y) pc = .ok (.invokestatic x, 3)) (ha : H[a]? = some (8, f)) (hb : H[b]? = some (8, g)) (i1 : m_in nn = true) (i2 : m_in dp = true) (i3 : m_in sp = true) (hn : 0 ≤ nn) (hdp : 0 ≤ dp) (hsp : 0 ≤ sp) (h1 : sp + nn ≤ f.length) (h2 : dp + nn ≤ g.length) (h8 : st.length ≤ 8) (h : m_P l D K B (d + 1) mc ms y p e s m args below meth c Q (pc + 3) ls st (H.modify b (fun q => (q.1, m_cpy f g sp.toNat dp.toNat nn.toNat))) k n) : m_P l D K B (d + 1) mc ms y p e s m args below meth c Q pc ls (mI nn :: mI dp :: mR b :: mI sp :: mR a :: st) H k n := by
  intro hk Hr locs lsr hP hS hl
  obtain ⟨p1, p2, p3, p4, hlok⟩ := m_ml_ok hm
  simp only [m_lok, Bool.and_eq_true] at hlok
  have hts := hc.2.2.2.2.2.1
  have hwa : (m_ws B K H)[a]? = some (B + a, .inl (K.1, f.length, .inl (fun j => Int32.ofInt (f.getD j 0)))) := by rw [m_ws_get ha]; rfl
  have hwb : (m_ws B K H)[b]? = some (B + b, .inl (K.1, g.length, .inl (fun j => Int32.ofInt (g.getD j 0)))) := by rw [m_ws_get hb]; rfl
  have e1 : sp.toNat + nn.toNat ≤ f.length := by omega
  have e2 : dp.toNat + nn.toNat ≤ g.length := by omega
  have hws' : m_ws B K (H.modify b (fun q => (q.1, m_cpy f g sp.toNat dp.toNat nn.toNat))) = (m_ws B K H).set b (B + b, .inl (K.1, g.length, .inl (va_cpy (fun j => Int32.ofInt (f.getD j 0)) (fun j => Int32.ofInt (g.getD j 0)) sp.toNat dp.toNat nn.toNat))) := by
    rw [m_ws_mod _ hb, ← m_cpy_va e1 e2]
    simp [m_encC, m_cpy_len e1 e2]
  refine va_copyi hc.1 hc.2.1 (by rw [hc.2.2.2.1]; exact hl.1.symm) hc.2.2.2.2.1 (hts _ (m_at_in hlok.1.1.1)) (hts _ (m_at_in hlok.1.1.2)) (hts _ (m_at_in hlok.1.2)) (hts _ (m_at_in hlok.2)) hc.2.2.2.2.2.2.2.2.1.1 hP (m_ws_D B K H) hS a b 0 0 hwa hwb (ty := .int) rfl rfl rfl (m_nneg i3 hsp) (m_nneg i2 hdp) (m_nneg i1 hn) (by rw [m_nat i3, m_nat i1]; exact e1) (by rw [m_nat i2, m_nat i1]; exact e2) (fun i hi => rfl) (by simp [m_rm]) (by
    rw [m_sum8]
    have : nativeFrameWords "java/lang/System" "arraycopy" 5 ≤ 40 := by decide +kernel
    show _ ≤ 64 * (d + 1)
    omega) hd (fun H1 locs1 g1 g2 g3 => ?_)
  rw [m_nat i1, m_nat i2, m_nat i3, ← hws'] at g1
  exact h (by simpa using hk) H1 locs1 lsr g1 g3 hl
end MC
end
section
/-! what the little machine does, the real one does: a step -/
def m_iok (pc : Nat) (i : Instr) (len : Nat) : Bool := match i with
  | .iconst _ => len == 1
  | .bipush _ => len == 2
  | .sipush _ => len == 3
  | .ldc_w _ => len == 3
  | .iload_n _ => len == 1
  | .iload _ => len == 2
  | .aload_n _ => len == 1
  | .istore_n _ => len == 1
  | .istore _ => len == 2
  | .astore_n _ => len == 1
  | .iinc _ _ => len == 3
  | .iadd => len == 1
  | .isub => len == 1
  | .imul => len == 1
  | .idiv => len == 1
  | .irem => len == 1
  | .iand => len == 1
  | .ior => len == 1
  | .ixor => len == 1
  | .ishl => len == 1
  | .ishr => len == 1
  | .iushr => len == 1
  | .dup => len == 1
  | .dup2 => len == 1
  | .ifCond _ off => len == 3 && decide (0 ≤ (pc : Int) + off)
  | .if_icmp _ off => len == 3 && decide (0 ≤ (pc : Int) + off)
  | .goto _ => len == 3
  | .tableswitch _ _ _ _ => true
  | .lookupswitch _ _ => true
  | .getfield _ => len == 3
  | .putfield _ => len == 3
  | .iaload => len == 1
  | .baload => len == 1
  | .aaload => len == 1
  | .iastore => len == 1
  | .bastore => len == 1
  | .aastore => len == 1
  | .arraylength => len == 1
  | .new _ => len == 3
  | .newarray _ => len == 2
  | .anewarray _ => len == 3
  | .ireturn => len == 1
  | .return_ => len == 1
  | _ => true
set_option maxRecDepth 100000 in
theorem m_iok_all : m_cs.all (fun l => l.all (fun q => m_iok q.1 q.2.1 q.2.2)) = true := by decide +kernel
theorem m_iok_at {y pc : Nat} {i : Instr} {len : Nat} (h : m_get y pc = some (i, len)) : m_iok pc i len = true := by
  unfold m_get at h
  cases hf : (m_cs.getD y []).find? (fun q => q.1 == pc) with
  | none => rw [hf] at h; cases h
  | some q =>
    rw [hf] at h
    have h1 := List.mem_of_find?_eq_some hf
    have h2 : (q.1 == pc) = true := by simpa using List.find?_some hf
    have h3 : q.1 = pc := by simpa using h2
    have h4 : q.2 = (i, len) := Option.some.inj h
    have h5 : m_cs.getD y [] ∈ m_cs ∨ m_cs.getD y [] = [] := by
      rw [List.getD_eq_getElem?_getD]
      cases hy : m_cs[y]? with
      | none => exact Or.inr rfl
      | some z => exact Or.inl (List.mem_of_getElem? hy)
    rcases h5 with h5 | h5
    · have h6 := List.all_eq_true.mp (List.all_eq_true.mp m_iok_all _ h5) q h1
      rw [h3, h4] at h6
      exact h6
    · rw [h5] at h1
      cases h1
theorem m_jmp_eq {pc tgt : Nat} {off : Int} (h : m_jmp pc off = some tgt) : (pc : Int) + off = (tgt : Int) := by
  unfold m_jmp at h
  split at h
  · cases h
    omega
  · cases h
theorem m_aget_spec {H : mH} {kind : Nat} {st : List mV} {q : Int × List mV} (h : m_aget H kind st = some q) : ∃ (i : Int) (a : Nat) (fs : List Int), st = mI i :: mR a :: q.2 ∧ H[a]? = some (kind, fs) ∧ 0 ≤ i ∧ fs[i.toNat]? = some q.1 := by
  unfold m_aget at h
  split at h
  · split at h
    · split at h
      · rename_i i a r _ k2 fs hH hk
        obtain ⟨v, h1, h2⟩ := Option.map_eq_some_iff.mp h
        cases h2
        obtain ⟨rfl, h0⟩ := hk
        exact ⟨i, a, fs, rfl, hH, h0, h1⟩
      · cases h
    · cases h
  · cases h
theorem m_aput_spec {H : mH} {kind t : Nat} {st : List mV} {q : List mV × mH} (h : m_aput H kind t st = some q) : ∃ (v : mV) (i : Int) (a : Nat) (fs : List Int) (x : Int), st = v :: mI i :: mR a :: q.1 ∧ H[a]? = some (kind, fs) ∧ 0 ≤ i ∧ i.toNat < fs.length ∧ m_st t v = some x ∧ q.2 = m_set H a i.toNat x := by
  unfold m_aput at h
  split at h
  · split at h
    · split at h
      · rename_i v i a r _ k2 fs hH hk
        obtain ⟨x, h1, h2⟩ := Option.map_eq_some_iff.mp h
        cases h2
        obtain ⟨rfl, h0, hl⟩ := hk
        exact ⟨v, i, a, fs, x, rfl, hH, h0, hl, h1, rfl⟩
      · cases h
    · cases h
  · cases h
theorem m_bin_spec {f : Int → Int → Int} {st st' : List mV} (h : m_bin f st = some st') : ∃ (a b : Int) (r : List mV), st = mI b :: mI a :: r ∧ m_in (f a b) = true ∧ st' = mI (f a b) :: r := by
  unfold m_bin at h
  split at h
  · split at h
    · rename_i b a r hin
      cases h
      exact ⟨a, b, r, rfl, hin, rfl⟩
    · cases h
  · cases h
theorem m_st_in {t : Nat} {v : mV} {x : Int} (h : m_st t v = some x) (hv : m_okV v) : m_in x = true := by
  unfold m_st at h
  split at h
  · rename_i z
    have hz : m_in z = true := hv z rfl
    split at h
    · cases h; exact hz
    · split at h
      · split at h
        · cases h; exact hz
        · cases h
      · cases h
  · split at h
    · rename_i hq
      cases h; exact hq.2
    · cases h
  · cases h
theorem m_ld_ok {t : Nat} {v : Int} {w : mV} (h : m_ld t v = some w) (hv : m_in v = true) : m_okV w ∧ w ≠ none := by
  unfold m_ld at h
  split at h
  · split at h
    · cases h
    · cases h; exact ⟨m_okVR _, by simp⟩
  · cases h; exact ⟨m_okVI hv, by simp⟩
theorem m_okH_get {H : mH} {a kd j : Nat} {fs : List Int} {v : Int} (h : m_okH H) (hH : H[a]? = some (kd, fs)) (hv : fs[j]? = some v) : m_in v = true := (h _ (List.mem_of_getElem? hH)).1 v (List.mem_of_getElem? hv)
/-- a step is right -/
def m_T (y pc : Nat) (ls st : List mV) (H : mH) (pc' : Nat) (ls' st' : List mV) (H' : mH) : Prop :=
  m_okH H' ∧ m_okL ls' ∧ m_okS st' ∧ ls'.length = m_mx y ∧ H.length ≤ H'.length ∧ m_sz H ≤ m_sz H' ∧
  ∀ (l : Launch) (D : va_G) (K : mK) (B kh d mc ms : Nat) (p : Program) (e : Env) (s : State) (m : MethodId) (args : Array Value) (below : List Frame) (meth : Method) (c : Code) (Q : State → Prop) (k n : Nat), m_ctx D K B kh y p s m args meth c → k + (H'.length - H.length) ≤ mc → n + (m_sz H' - m_sz H) ≤ ms →
    m_P l D K B d mc ms y p e s m args below meth c Q pc' ls' st' H' (k + (H'.length - H.length)) (n + (m_sz H' - m_sz H)) → m_P l D K B d mc ms y p e s m args below meth c Q pc ls st H k n
theorem m_T_same {y pc : Nat} {ls st : List mV} {H : mH} {pc' : Nat} {ls' st' : List mV} {H' : mH} (h1 : m_okH H') (h2 : m_okL ls') (h3 : m_okS st') (h4 : ls'.length = m_mx y) (h5 : H'.length = H.length) (h6 : m_sz H' = m_sz H)
    (h : ∀ (l : Launch) (D : va_G) (K : mK) (B kh d mc ms : Nat) (p : Program) (e : Env) (s : State) (m : MethodId) (args : Array Value) (below : List Frame) (meth : Method) (c : Code) (Q : State → Prop) (k n : Nat), m_ctx D K B kh y p s m args meth c →
      m_P l D K B d mc ms y p e s m args below meth c Q pc' ls' st' H' k n → m_P l D K B d mc ms y p e s m args below meth c Q pc ls st H k n) : m_T y pc ls st H pc' ls' st' H' := by
  refine ⟨h1, h2, h3, h4, by omega, by omega, fun l D K B kh d mc ms p e s m args below meth c Q k n hc _ _ hp => h l D K B kh d mc ms p e s m args below meth c Q k n hc ?_⟩
  rw [h5, h6, Nat.sub_self, Nat.sub_self] at hp
  exact hp
section MT
variable {y pc len : Nat} {ls st ls' st' : List mV} {H H' : mH} {pc' : Nat}
theorem m_setT {a j : Nat} {v : Int} (o1 : m_okH H) (o2 : m_okL ls) (o3 : m_okS st') (hL : ls.length = m_mx y) (hv : m_in v = true)
    (h : ∀ (l : Launch) (D : va_G) (K : mK) (B kh d mc ms : Nat) (p : Program) (e : Env) (s : State) (m : MethodId) (args : Array Value) (below : List Frame) (meth : Method) (c : Code) (Q : State → Prop) (k n : Nat), m_ctx D K B kh y p s m args meth c →
      m_P l D K B d mc ms y p e s m args below meth c Q pc' ls st' (m_set H a j v) k n → m_P l D K B d mc ms y p e s m args below meth c Q pc ls st H k n) : m_T y pc ls st H pc' ls st' (m_set H a j v) :=
  m_T_same (m_set_ok o1 hv) o2 o3 hL (m_set_len H a j v) (m_set_sz H a j v) h
theorem m_next_ok {i : Instr} (hg : m_get y pc = some (i, len)) (h : m_next y i len pc ls st H = some (pc', ls', st', H')) (o1 : m_okH H) (o2 : m_okL ls) (o3 : m_okS st) (hL : ls.length = m_mx y) : m_T y pc ls st H pc' ls' st' H' := by
  have hd := m_dec hg
  have hi := m_iok_at hg
  cases i with
  | iconst x =>
    obtain rfl : len = 1 := by simpa [m_iok] using hi
    simp only [m_next] at h
    split at h
    · cases h
      exact m_T_same o1 o2 (m_okS_I (by assumption) o3) hL rfl rfl (fun l D K B kh d mc ms p e s m args below meth c Q k n hc hp => s_iconst hc hd hp)
    · cases h
  | bipush x =>
    obtain rfl : len = 2 := by simpa [m_iok] using hi
    simp only [m_next] at h
    split at h
    · rename_i hx
      cases h
      exact m_T_same o1 o2 (m_okS_I (by rw [m_in_iff]; omega) o3) hL rfl rfl (fun l D K B kh d mc ms p e s m args below meth c Q k n hc hp => s_bipush hc hd hx hp)
    · cases h
  | sipush x =>
    obtain rfl : len = 3 := by simpa [m_iok] using hi
    simp only [m_next] at h
    split at h
    · rename_i hx
      cases h
      exact m_T_same o1 o2 (m_okS_I (by rw [m_in_iff]; omega) o3) hL rfl rfl (fun l D K B kh d mc ms p e s m args below meth c Q k n hc hp => s_sipush hc hd hx hp)
    · cases h
  | ldc_w x =>
    obtain rfl : len = 3 := by simpa [m_iok] using hi
    simp only [m_next] at h
    split at h
    · split at h
      · rename_i v hx hv
        cases h
        exact m_T_same o1 o2 (m_okS_I hv o3) hL rfl rfl (fun l D K B kh d mc ms p e s m args below meth c Q k n hc hp => s_ldc_w hc hd hx hp)
      · cases h
    · cases h
  | iload_n x =>
    obtain rfl : len = 1 := by simpa [m_iok] using hi
    simp only [m_next] at h
    split at h
    · rename_i v hx
      cases h
      exact m_T_same o1 o2 (m_okS_I (m_okL_get o2 hx) o3) hL rfl rfl (fun l D K B kh d mc ms p e s m args below meth c Q k n hc hp => s_iload_n hc hd hx hp)
    · cases h
  | iload x =>
    obtain rfl : len = 2 := by simpa [m_iok] using hi
    simp only [m_next] at h
    split at h
    · rename_i v hx
      cases h
      exact m_T_same o1 o2 (m_okS_I (m_okL_get o2 hx) o3) hL rfl rfl (fun l D K B kh d mc ms p e s m args below meth c Q k n hc hp => s_iload hc hd hx hp)
    · cases h
  | aload_n x =>
    obtain rfl : len = 1 := by simpa [m_iok] using hi
    simp only [m_next] at h
    split at h
    · rename_i v hx
      cases h
      exact m_T_same o1 o2 (m_okS_R o3) hL rfl rfl (fun l D K B kh d mc ms p e s m args below meth c Q k n hc hp => s_aload_n hc hd hx hp)
    · cases h
  | istore_n x =>
    obtain rfl : len = 1 := by simpa [m_iok] using hi
    simp only [m_next] at h
    split at h
    · split at h
      · rename_i v r hx
        cases h
        exact m_T_same o1 (m_okL_set o2 (m_okVI (m_okS_hd o3))) (m_okS_tl o3) (by simpa using hL) rfl rfl (fun l D K B kh d mc ms p e s m args below meth c Q k n hc hp => s_istore_n hc hL hd hx hp)
      · cases h
    · cases h
  | istore x =>
    obtain rfl : len = 2 := by simpa [m_iok] using hi
    simp only [m_next] at h
    split at h
    · split at h
      · rename_i v r hx
        cases h
        exact m_T_same o1 (m_okL_set o2 (m_okVI (m_okS_hd o3))) (m_okS_tl o3) (by simpa using hL) rfl rfl (fun l D K B kh d mc ms p e s m args below meth c Q k n hc hp => s_istore hc hL hd hx hp)
      · cases h
    · cases h
  | astore_n x =>
    obtain rfl : len = 1 := by simpa [m_iok] using hi
    simp only [m_next] at h
    split at h
    · split at h
      · rename_i v r hx
        cases h
        exact m_T_same o1 (m_okL_set o2 (m_okVR v)) (m_okS_tl o3) (by simpa using hL) rfl rfl (fun l D K B kh d mc ms p e s m args below meth c Q k n hc hp => s_astore_n hc hL hd hx hp)
      · cases h
    · cases h
  | iinc x a =>
    obtain rfl : len = 3 := by simpa [m_iok] using hi
    simp only [m_next] at h
    split at h
    · split at h
      · rename_i v hx hin
        cases h
        exact m_T_same o1 (m_okL_set o2 (m_okVI hin)) o3 (by simpa using hL) rfl rfl (fun l D K B kh d mc ms p e s m args below meth c Q k n hc hp => s_iinc hc hL hd hx hp)
      · cases h
    · cases h
  | iadd =>
    obtain rfl : len = 1 := by simpa [m_iok] using hi
    simp only [m_next] at h
    obtain ⟨st2, h1, h2⟩ := Option.map_eq_some_iff.mp h
    obtain ⟨a, b, r, rfl, hin, rfl⟩ := m_bin_spec h1
    cases h2
    exact m_T_same o1 o2 (m_okS_I hin (m_okS_tl (m_okS_tl o3))) hL rfl rfl (fun l D K B kh d mc ms p e s m args below meth c Q k n hc hp => s_iadd hc hd hp)
  | isub =>
    obtain rfl : len = 1 := by simpa [m_iok] using hi
    simp only [m_next] at h
    obtain ⟨st2, h1, h2⟩ := Option.map_eq_some_iff.mp h
    obtain ⟨a, b, r, rfl, hin, rfl⟩ := m_bin_spec h1
    cases h2
    exact m_T_same o1 o2 (m_okS_I hin (m_okS_tl (m_okS_tl o3))) hL rfl rfl (fun l D K B kh d mc ms p e s m args below meth c Q k n hc hp => s_isub hc hd hp)
  | imul =>
    obtain rfl : len = 1 := by simpa [m_iok] using hi
    simp only [m_next] at h
    obtain ⟨st2, h1, h2⟩ := Option.map_eq_some_iff.mp h
    obtain ⟨a, b, r, rfl, hin, rfl⟩ := m_bin_spec h1
    cases h2
    exact m_T_same o1 o2 (m_okS_I hin (m_okS_tl (m_okS_tl o3))) hL rfl rfl (fun l D K B kh d mc ms p e s m args below meth c Q k n hc hp => s_imul hc hd hp)
  | idiv =>
    obtain rfl : len = 1 := by simpa [m_iok] using hi
    simp only [m_next] at h
    split at h
    · split at h
      · cases h
      · rename_i b a r h0
        cases h
        have hb := m_okS_hd o3
        have ha := m_okS_hd (m_okS_tl o3)
        exact m_T_same o1 o2 (m_okS_I (m_div ha hb h0).1 (m_okS_tl (m_okS_tl o3))) hL rfl rfl (fun l D K B kh d mc ms p e s m args below meth c Q k n hc hp => s_idiv hc hd ha hb h0 hp)
    · cases h
  | irem =>
    obtain rfl : len = 1 := by simpa [m_iok] using hi
    simp only [m_next] at h
    split at h
    · split at h
      · cases h
      · rename_i b a r h0
        cases h
        have hb := m_okS_hd o3
        have ha := m_okS_hd (m_okS_tl o3)
        exact m_T_same o1 o2 (m_okS_I (m_rem ha hb h0).1 (m_okS_tl (m_okS_tl o3))) hL rfl rfl (fun l D K B kh d mc ms p e s m args below meth c Q k n hc hp => s_irem hc hd ha hb h0 hp)
    · cases h
  | iand =>
    obtain rfl : len = 1 := by simpa [m_iok] using hi
    simp only [m_next] at h
    split at h
    · cases h
      exact m_T_same o1 o2 (m_okS_I (m_in_toInt _) (m_okS_tl (m_okS_tl o3))) hL rfl rfl (fun l D K B kh d mc ms p e s m args below meth c Q k n hc hp => s_iand hc hd hp)
    · cases h
  | ior =>
    obtain rfl : len = 1 := by simpa [m_iok] using hi
    simp only [m_next] at h
    split at h
    · cases h
      exact m_T_same o1 o2 (m_okS_I (m_in_toInt _) (m_okS_tl (m_okS_tl o3))) hL rfl rfl (fun l D K B kh d mc ms p e s m args below meth c Q k n hc hp => s_ior hc hd hp)
    · cases h
  | ixor =>
    obtain rfl : len = 1 := by simpa [m_iok] using hi
    simp only [m_next] at h
    split at h
    · cases h
      exact m_T_same o1 o2 (m_okS_I (m_in_toInt _) (m_okS_tl (m_okS_tl o3))) hL rfl rfl (fun l D K B kh d mc ms p e s m args below meth c Q k n hc hp => s_ixor hc hd hp)
    · cases h
  | ishl =>
    obtain rfl : len = 1 := by simpa [m_iok] using hi
    simp only [m_next] at h
    split at h
    · cases h
      exact m_T_same o1 o2 (m_okS_I (m_in_toInt _) (m_okS_tl (m_okS_tl o3))) hL rfl rfl (fun l D K B kh d mc ms p e s m args below meth c Q k n hc hp => s_ishl hc hd hp)
    · cases h
  | ishr =>
    obtain rfl : len = 1 := by simpa [m_iok] using hi
    simp only [m_next] at h
    split at h
    · cases h
      exact m_T_same o1 o2 (m_okS_I (m_in_toInt _) (m_okS_tl (m_okS_tl o3))) hL rfl rfl (fun l D K B kh d mc ms p e s m args below meth c Q k n hc hp => s_ishr hc hd hp)
    · cases h
  | iushr =>
    obtain rfl : len = 1 := by simpa [m_iok] using hi
    simp only [m_next] at h
    split at h
    · cases h
      exact m_T_same o1 o2 (m_okS_I (m_in_toInt _) (m_okS_tl (m_okS_tl o3))) hL rfl rfl (fun l D K B kh d mc ms p e s m args below meth c Q k n hc hp => s_iushr hc hd hp)
    · cases h
  | dup =>
    obtain rfl : len = 1 := by simpa [m_iok] using hi
    simp only [m_next] at h
    split at h
    · cases h
      exact m_T_same o1 o2 (m_okS_cons (o3 _ List.mem_cons_self).1 (by simp) o3) hL rfl rfl (fun l D K B kh d mc ms p e s m args below meth c Q k n hc hp => s_dup hc hd hp)
    · cases h
  | dup2 =>
    obtain rfl : len = 1 := by simpa [m_iok] using hi
    simp only [m_next] at h
    split at h
    · cases h
      exact m_T_same o1 o2 (m_okS_cons (o3 _ List.mem_cons_self).1 (by simp) (m_okS_cons (o3 _ (List.mem_cons_of_mem _ List.mem_cons_self)).1 (by simp) o3)) hL rfl rfl (fun l D K B kh d mc ms p e s m args below meth c Q k n hc hp => s_dup2 hc hd hp)
    · cases h
  | ifCond cd off =>
    obtain ⟨rfl, hoff⟩ : len = 3 ∧ 0 ≤ (pc : Int) + off := by simpa [m_iok] using hi
    have htgt : (pc : Int) + off = ((((pc : Int) + off).toNat : Nat) : Int) := by omega
    simp only [m_next] at h
    split at h
    · rename_i a r
      have ha := m_okS_hd o3
      split at h
      · rename_i hcm
        obtain ⟨t, h1, h2⟩ := Option.map_eq_some_iff.mp h
        cases h2
        exact m_T_same o1 o2 (m_okS_tl o3) hL rfl rfl (fun l D K B kh d mc ms p e s m args below meth c Q k n hc hp => s_if hc hd (m_jmp_eq h1) ha (fun _ => hp) (fun q => absurd hcm (by rw [q]; decide)))
      · rename_i hcm
        cases h
        exact m_T_same o1 o2 (m_okS_tl o3) hL rfl rfl (fun l D K B kh d mc ms p e s m args below meth c Q k n hc hp => s_if hc hd htgt ha (fun q => absurd q hcm) (fun _ => hp))
    · cases h
  | if_icmp cd off =>
    obtain ⟨rfl, hoff⟩ : len = 3 ∧ 0 ≤ (pc : Int) + off := by simpa [m_iok] using hi
    have htgt : (pc : Int) + off = ((((pc : Int) + off).toNat : Nat) : Int) := by omega
    simp only [m_next] at h
    split at h
    · rename_i b a r
      have hb := m_okS_hd o3
      have ha := m_okS_hd (m_okS_tl o3)
      split at h
      · rename_i hcm
        obtain ⟨t, h1, h2⟩ := Option.map_eq_some_iff.mp h
        cases h2
        exact m_T_same o1 o2 (m_okS_tl (m_okS_tl o3)) hL rfl rfl (fun l D K B kh d mc ms p e s m args below meth c Q k n hc hp => s_icmp hc hd (m_jmp_eq h1) ha hb (fun _ => hp) (fun q => absurd hcm (by rw [q]; decide)))
      · rename_i hcm
        cases h
        exact m_T_same o1 o2 (m_okS_tl (m_okS_tl o3)) hL rfl rfl (fun l D K B kh d mc ms p e s m args below meth c Q k n hc hp => s_icmp hc hd htgt ha hb (fun q => absurd q hcm) (fun _ => hp))
    · cases h
  | goto off =>
    obtain rfl : len = 3 := by simpa [m_iok] using hi
    simp only [m_next] at h
    obtain ⟨t, h1, h2⟩ := Option.map_eq_some_iff.mp h
    cases h2
    exact m_T_same o1 o2 o3 hL rfl rfl (fun l D K B kh d mc ms p e s m args below meth c Q k n hc hp => s_goto hc hd (m_jmp_eq h1) hp)
  | tableswitch dd lo hi2 offs =>
    simp only [m_next] at h
    split at h
    · obtain ⟨t, h1, h2⟩ := Option.map_eq_some_iff.mp h
      cases h2
      exact m_T_same o1 o2 (m_okS_tl o3) hL rfl rfl (fun l D K B kh d mc ms p e s m args below meth c Q k n hc hp => s_table hc hd (m_okS_hd o3) h1 hp)
    · cases h
  | lookupswitch dd ps =>
    simp only [m_next] at h
    split at h
    · split at h
      · rename_i hps
        obtain ⟨t, h1, h2⟩ := Option.map_eq_some_iff.mp h
        cases h2
        exact m_T_same o1 o2 (m_okS_tl o3) hL rfl rfl (fun l D K B kh d mc ms p e s m args below meth c Q k n hc hp => s_lookup hc hd (m_okS_hd o3) hps h1 hp)
      · cases h
    · cases h
  | getfield x =>
    obtain rfl : len = 3 := by simpa [m_iok] using hi
    simp only [m_next] at h
    split at h
    · split at h
      · split at h
        · split at h
          · rename_i ci kf a r hfl _ kd fs hH hkd _ _ v t hv ht
            obtain ⟨w, h1, h2⟩ := Option.map_eq_some_iff.mp h
            cases h2
            subst hkd
            obtain ⟨g1, g2⟩ := m_ld_ok h1 (m_okH_get o1 hH hv)
            exact m_T_same o1 o2 (m_okS_cons g1 g2 (m_okS_tl o3)) hL rfl rfl (fun l D K B kh d mc ms p e s m args below meth c Q k n hc hp => s_getfield hc hd hfl hH hv ht h1 hp)
          · cases h
        · cases h
      · cases h
    · cases h
  | putfield x =>
    obtain rfl : len = 3 := by simpa [m_iok] using hi
    simp only [m_next] at h
    split at h
    · split at h
      · split at h
        · split at h
          · rename_i ci kf v a r hfl _ kd fs hH hkd _ t ht
            obtain ⟨w, h1, h2⟩ := Option.map_eq_some_iff.mp h
            cases h2
            obtain ⟨rfl, hkl, hfin⟩ := hkd
            obtain ⟨h8, -⟩ := m_fl_ok hfl
            exact m_setT o1 o2 (m_okS_tl (m_okS_tl o3)) hL (m_st_in h1 (o3 _ List.mem_cons_self).1) (fun l D K B kh d mc ms p e s m args below meth c Q k n hc hp => s_putfield hc hd hfl hH hkl ((o1 _ (List.mem_of_getElem? hH)).2.2 h8) hfin ht h1 hp)
          · cases h
        · cases h
      · cases h
    · cases h
  | iaload =>
    obtain rfl : len = 1 := by simpa [m_iok] using hi
    simp only [m_next] at h
    obtain ⟨q, h1, h2⟩ := Option.map_eq_some_iff.mp h
    obtain ⟨i, a, fs, rfl, hH, h0, hv⟩ := m_aget_spec h1
    cases h2
    exact m_T_same o1 o2 (m_okS_I (m_okH_get o1 hH hv) (m_okS_tl (m_okS_tl o3))) hL rfl rfl (fun l D K B kh d mc ms p e s m args below meth c Q k n hc hp => s_iaload hc hd hH (m_okS_hd o3) h0 hv hp)
  | baload =>
    obtain rfl : len = 1 := by simpa [m_iok] using hi
    simp only [m_next] at h
    obtain ⟨q, h1, h2⟩ := Option.map_eq_some_iff.mp h
    obtain ⟨i, a, fs, rfl, hH, h0, hv⟩ := m_aget_spec h1
    cases h2
    exact m_T_same o1 o2 (m_okS_I (m_okH_get o1 hH hv) (m_okS_tl (m_okS_tl o3))) hL rfl rfl (fun l D K B kh d mc ms p e s m args below meth c Q k n hc hp => s_baload hc hd hH (m_okS_hd o3) h0 hv hp)
  | aaload =>
    obtain rfl : len = 1 := by simpa [m_iok] using hi
    simp only [m_next] at h
    obtain ⟨q, h1, h2⟩ := Option.bind_eq_some_iff.mp h
    obtain ⟨w, h3, h4⟩ := Option.map_eq_some_iff.mp h2
    obtain ⟨i, a, fs, rfl, hH, h0, hv⟩ := m_aget_spec h1
    cases h4
    obtain ⟨g1, g2⟩ := m_ld_ok h3 (m_okH_get o1 hH hv)
    exact m_T_same o1 o2 (m_okS_cons g1 g2 (m_okS_tl (m_okS_tl o3))) hL rfl rfl (fun l D K B kh d mc ms p e s m args below meth c Q k n hc hp => s_aaload hc hd hH (m_okS_hd o3) h0 hv h3 hp)
  | iastore =>
    obtain rfl : len = 1 := by simpa [m_iok] using hi
    simp only [m_next] at h
    obtain ⟨q, h1, h2⟩ := Option.map_eq_some_iff.mp h
    obtain ⟨v, i, a, fs, x, rfl, hH, h0, hl, hst, hq⟩ := m_aput_spec h1
    cases h2
    rw [hq]
    have hx := m_st_in hst (o3 _ List.mem_cons_self).1
    have hv : v = mI x := by
      unfold m_st at hst
      split at hst
      · simp at hst; rw [hst]
      · simp at hst
      · cases hst
    subst hv
    exact m_setT o1 o2 (m_okS_tl (m_okS_tl (m_okS_tl o3))) hL hx (fun l D K B kh d mc ms p e s m args below meth c Q k n hc hp => s_iastore hc hd hH (m_okS_hd (m_okS_tl o3)) h0 hl hp)
  | bastore =>
    obtain rfl : len = 1 := by simpa [m_iok] using hi
    simp only [m_next] at h
    obtain ⟨q, h1, h2⟩ := Option.map_eq_some_iff.mp h
    obtain ⟨v, i, a, fs, x, rfl, hH, h0, hl, hst, hq⟩ := m_aput_spec h1
    cases h2
    rw [hq]
    have hx := m_st_in hst (o3 _ List.mem_cons_self).1
    obtain ⟨hv, h01⟩ : v = mI x ∧ (x = 0 ∨ x = 1) := by
      unfold m_st at hst
      split at hst
      · split at hst
        · omega
        · split at hst
          · split at hst
            · rename_i hz
              cases hst
              exact ⟨rfl, hz⟩
            · cases hst
          · omega
      · simp at hst
      · cases hst
    subst hv
    exact m_setT o1 o2 (m_okS_tl (m_okS_tl (m_okS_tl o3))) hL hx (fun l D K B kh d mc ms p e s m args below meth c Q k n hc hp => s_bastore hc hd hH (m_okS_hd (m_okS_tl o3)) h0 hl h01 hp)
  | aastore =>
    obtain rfl : len = 1 := by simpa [m_iok] using hi
    simp only [m_next] at h
    split at h
    · rename_i hisL
      obtain ⟨q, h1, h2⟩ := Option.map_eq_some_iff.mp h
      obtain ⟨v, i, a, fs, x, rfl, hH, h0, hl, hst, hq⟩ := m_aput_spec h1
      cases h2
      rw [hq]
      have hx := m_st_in hst (o3 _ List.mem_cons_self).1
      simp only [List.headD_cons] at hisL
      unfold m_isL at hisL
      split at hisL
      · rename_i b
        split at hisL
        · rename_i k2 gs hb
          have hk2 : k2 = 2 := by simpa using hisL
          subst hk2
          have hxb : x = (b : Int) := by
            unfold m_st at hst
            simp at hst
            omega
          subst hxb
          exact m_setT o1 o2 (m_okS_tl (m_okS_tl (m_okS_tl o3))) hL hx (fun l D K B kh d mc ms p e s m args below meth c Q k n hc hp => s_aastore hc hd hH hb (m_okS_hd (m_okS_tl o3)) h0 hl hp)
        · cases hisL
      · cases hisL
    · cases h
  | arraylength =>
    obtain rfl : len = 1 := by simpa [m_iok] using hi
    simp only [m_next] at h
    split at h
    · split at h
      · split at h
        · rename_i a r kd fs hH hkd
          cases h
          exact m_T_same o1 o2 (m_okS_I hkd.2 (m_okS_tl o3)) hL rfl rfl (fun l D K B kh d mc ms p e s m args below meth c Q k n hc hp => s_arraylength hc hd hH hkd.1 hp)
        · cases h
      · cases h
    · cases h
  | new x =>
    obtain rfl : len = 3 := by simpa [m_iok] using hi
    simp only [m_next] at h
    split at h
    · rename_i ci hci
      cases h
      obtain ⟨h8, -⟩ := m_cl_ok hci
      have hdl : (m_def ci).length = (m_C ci).2.2 := by simp [m_def, m_tag_len h8]
      have e1 : (H ++ [(ci, m_def ci)]).length - H.length = 1 := by simp
      have e2 : m_sz (H ++ [(ci, m_def ci)]) - m_sz H = (m_C ci).2.2 := by rw [m_sz_app, hdl]; omega
      refine ⟨m_app_ok o1 ⟨fun v hv => ?_, by simp only; omega, fun _ => hdl⟩, o2, m_okS_R o3, hL, by simp, by rw [m_sz_app]; omega, fun l D K B kh d mc ms p e s m args below meth c Q k n hc hkc hns hp => ?_⟩
      · simp only [m_def, List.mem_map] at hv
        obtain ⟨t, -, rfl⟩ := hv
        split <;> decide
      · rw [e1] at hkc hp
        rw [e2] at hns hp
        exact s_new hc hd hci hkc hns hp
    · cases h
  | newarray t =>
    obtain rfl : len = 2 := by simpa [m_iok] using hi
    simp only [m_next] at h
    split at h
    · split at h
      · rename_i x r hx
        split at h
        · cases h
          have e1 : (H ++ [(8, List.replicate x.toNat (0 : Int))]).length - H.length = 1 := by simp
          have e2 : m_sz (H ++ [(8, List.replicate x.toNat (0 : Int))]) - m_sz H = x.toNat := by rw [m_sz_app]; simp
          refine ⟨m_app_ok o1 ⟨fun v hv => ?_, by simp, fun h8 => by simp at h8⟩, o2, m_okS_R (m_okS_tl o3), hL, by simp, by rw [m_sz_app]; omega, fun l D K B kh d mc ms p e s m args below meth c Q k n hc hkc hns hp => ?_⟩
          · rw [(List.mem_replicate.mp hv).2]; decide
          · rw [e1] at hkc hp
            rw [e2] at hns hp
            exact s_newI hc hd hx hkc hns hp
        · cases h
          have e1 : (H ++ [(9, List.replicate x.toNat (0 : Int))]).length - H.length = 1 := by simp
          have e2 : m_sz (H ++ [(9, List.replicate x.toNat (0 : Int))]) - m_sz H = x.toNat := by rw [m_sz_app]; simp
          refine ⟨m_app_ok o1 ⟨fun v hv => ?_, by simp, fun h8 => by simp at h8⟩, o2, m_okS_R (m_okS_tl o3), hL, by simp, by rw [m_sz_app]; omega, fun l D K B kh d mc ms p e s m args below meth c Q k n hc hkc hns hp => ?_⟩
          · rw [(List.mem_replicate.mp hv).2]; decide
          · rw [e1] at hkc hp
            rw [e2] at hns hp
            exact s_newZ hc hd hx hkc hns hp
        · cases h
      · cases h
    · cases h
  | anewarray x =>
    obtain rfl : len = 3 := by simpa [m_iok] using hi
    simp only [m_next] at h
    split at h
    · split at h
      · rename_i ci hci2 z r hci hx
        cases h
        obtain ⟨rfl, hx⟩ := hx
        have e1 : (H ++ [(10, List.replicate z.toNat (-1 : Int))]).length - H.length = 1 := by simp
        have e2 : m_sz (H ++ [(10, List.replicate z.toNat (-1 : Int))]) - m_sz H = z.toNat := by rw [m_sz_app]; simp
        refine ⟨m_app_ok o1 ⟨fun v hv => ?_, by simp, fun h8 => by simp at h8⟩, o2, m_okS_R (m_okS_tl o3), hL, by simp, by rw [m_sz_app]; omega, fun l D K B kh d mc ms p e s m args below meth c Q k n hc hkc hns hp => ?_⟩
        · rw [(List.mem_replicate.mp hv).2]; decide
        · rw [e1] at hkc hp
          rw [e2] at hns hp
          exact s_newL hc hd hci hx hkc hns hp
      · cases h
    · cases h
  | _ => exact absurd h (by simp [m_next])
end MT
end
section
/-! what the little machine does, the real one does: a whole run -/
def m_S (d y pc : Nat) (ls st : List mV) (H : mH) (r : mV) (H' : mH) : Prop :=
  m_okH H' ∧ m_okV r ∧ H.length ≤ H'.length ∧ m_sz H ≤ m_sz H' ∧
  ∀ (l : Launch) (D : va_G) (K : mK) (B kh mc ms : Nat) (p : Program) (e : Env) (s : State) (m : MethodId) (args : Array Value) (below : List Frame) (meth : Method) (c : Code) (k n : Nat), m_ctx D K B kh y p s m args meth c → k + (H'.length - H.length) ≤ mc → n + (m_sz H' - m_sz H) ≤ ms →
    m_P l D K B d mc ms y p e s m args below meth c (MQ below (m_Qc D K B r H') args s mc ms (fun q => B ≤ q)) pc ls st H k n
theorem m_S_step {d y pc : Nat} {ls st : List mV} {H : mH} {r : mV} {H' : mH} {pc1 : Nat} {ls1 st1 : List mV} {H1 : mH} (ht : m_T y pc ls st H pc1 ls1 st1 H1) (h : m_S d y pc1 ls1 st1 H1 r H') : m_S d y pc ls st H r H' := by
  obtain ⟨-, -, -, -, a5, a6, a7⟩ := ht
  obtain ⟨b1, b2, b3, b4, b5⟩ := h
  refine ⟨b1, b2, by omega, by omega, fun l D K B kh mc ms p e s m args below meth c k n hc hk hn => ?_⟩
  exact a7 l D K B kh d mc ms p e s m args below meth c _ k n hc (by omega) (by omega) (b5 l D K B kh mc ms p e s m args below meth c _ _ hc (by omega) (by omega))
/-- what a method called at depth d does, for every launch -/
def m_CM (d z : Nat) (av : List mV) (H : mH) (r : mV) (H1 : mH) : Prop := ∀ (l : Launch) (D : va_G) (K : mK) (B kh : Nat), m_Met l D K B kh d (H1.length - H.length) (m_sz H1 - m_sz H) z av H r H1
theorem m_call_S {d y pc i1 x j k z : Nat} {i : Instr} {ls st : List mV} {H : mH} {r r1 : mV} {H' H1 : mH} {av : List mV} (hi1 : i1 = 3) (hg : m_get y pc = some (i, i1)) (hi : m_inv i = some (j, x)) (hm : m_ml (m_own y) x = some (k, z)) (hfit : m_fit j k = true) (hk5 : ¬ 5 ≤ k) (hM : m_CM d z av H r1 H1) (hrc : m_rcv k z av H = true) (hn : av.length = m_na z) (h8 : st.length ≤ 8) (hle : H.length ≤ H1.length) (hsz : m_sz H ≤ m_sz H1)
    (h : m_S (d + 1) y (pc + 3) ls (m_push r1 st) H1 r H') : m_S (d + 1) y pc ls (av.reverse ++ st) H r H' := by
  subst hi1
  have hd := m_dec hg
  obtain ⟨b1, b2, b3, b4, b5⟩ := h
  refine ⟨b1, b2, by omega, by omega, fun l D K B kh mc ms p e s m args below meth c k0 n0 hc hk hn0 => ?_⟩
  have hp := b5 l D K B kh mc ms p e s m args below meth c (k0 + (H1.length - H.length)) (n0 + (m_sz H1 - m_sz H)) hc (by omega) (by omega)
  have hM := hM l D K B kh
  have hlen : H1.length = H.length + (H1.length - H.length) := by omega
  have a1 : k0 + (H1.length - H.length) ≤ mc := by omega
  have a2 : n0 + (m_sz H1 - m_sz H) ≤ ms := by omega
  cases i with
  | invokevirtual x' =>
    cases hi
    have : k = 0 := by simpa [m_fit] using hfit
    subst this
    unfold m_rcv at hrc
    match av, hrc, hn, hM with
    | some (.inr a) :: av', hrc, hn, hM =>
      simp only at hrc
      split at hrc
      · rename_i kd fs ha
        have hkd : kd = m_own z := by simpa using hrc
        subst hkd
        have := s_callV hc hm hd hM ha hn h8 a1 a2 hlen hp
        simpa using this
      · cases hrc
  | invokestatic x' =>
    cases hi
    have : k = 1 ∨ k = 3 := by
      simp [m_fit] at hfit
      omega
    rcases this with rfl | rfl
    · exact s_callS hc hm hd hM hn h8 a1 a2 hlen hp
    · exact s_callSN hc hm hd hM hn h8 a1 a2 hlen hp
  | invokespecial x' =>
    cases hi
    have : k = 2 ∨ k = 4 := by
      simp [m_fit] at hfit
      omega
    rcases this with rfl | rfl
    · unfold m_rcv at hrc
      match av, hrc, hn, hM with
      | some (.inr a) :: av', hrc, hn, hM =>
        have := s_callI hc hm hd hM hn h8 a1 a2 hlen hp
        simpa using this
    · unfold m_rcv at hrc
      match av, hrc, hn, hM with
      | some (.inr a) :: av', hrc, hn, hM =>
        have := s_callIN hc hm hd hM hn h8 a1 a2 hlen hp
        simpa using this
  | _ => exact absurd hi (by simp [m_inv])
theorem m_blt_S {d y pc i1 x j k z : Nat} {i : Instr} {ls st st' : List mV} {H : mH} {r : mV} {H' H1 : mH} (hi1 : i1 = 3) (hg : m_get y pc = some (i, i1)) (hi : m_inv i = some (j, x)) (hm : m_ml (m_own y) x = some (k, z)) (hfit : m_fit j k = true) (o1 : m_okH H) (o3 : m_okS st) (hb : m_blt k st H = some (st', H1)) (h8 : st'.length ≤ 8)
    (h : m_okH H1 → m_okS st' → m_S (d + 1) y (pc + 3) ls st' H1 r H') : m_S (d + 1) y pc ls st H r H' := by
  subst hi1
  have hd := m_dec hg
  unfold m_blt at hb
  split at hb
  · split at hb
    · cases hb
      obtain ⟨b1, b2, b3, b4, b5⟩ := h o1 (m_okS_tl o3)
      refine ⟨b1, b2, by omega, by omega, fun l D K B kh mc ms p e s m args below meth c k0 n0 hc hk hn0 => ?_⟩
      have hp := b5 l D K B kh mc ms p e s m args below meth c k0 n0 hc (by omega) (by omega)
      have hx : i = .invokespecial x := by
        cases i with
        | invokespecial x' => cases hi; rfl
        | invokevirtual x' => cases hi; simp [m_fit] at hfit
        | invokestatic x' => cases hi; simp [m_fit] at hfit
        | _ => exact absurd hi (by simp [m_inv])
      subst hx
      exact s_objInit hc hm hd h8 hp
    · cases hb
  · split at hb
    · split at hb
      · split at hb
        · rename_i nn dp b sp a r0 _ _ ka f kb g hf hgb hcond
          cases hb
          obtain ⟨rfl, rfl, hn, hdp, hsp, q1, q2⟩ := hcond
          have e1 : sp.toNat + nn.toNat ≤ f.length := by omega
          have e2 : dp.toNat + nn.toNat ≤ g.length := by omega
          have t1 := m_okS_tl o3
          have t2 := m_okS_tl t1
          have t3 := m_okS_tl t2
          have t4 := m_okS_tl t3
          have hok : m_okH (H.modify b (fun q => (q.1, m_cpy f g sp.toNat dp.toNat nn.toNat))) := by
            refine m_mod_ok o1 (fun c hc0 hc1 => ⟨fun v hv => ?_, hc1.2.1, fun h8 => ?_⟩)
            · have hv2 : v ∈ g.take dp.toNat ++ ((f.drop sp.toNat).take nn.toNat ++ g.drop (dp.toNat + nn.toNat)) := hv
              rcases List.mem_append.mp hv2 with hv2 | hv2
              · exact (o1 _ (List.mem_of_getElem? hgb)).1 v (List.mem_of_mem_take hv2)
              · rcases List.mem_append.mp hv2 with hv2 | hv2
                · exact (o1 _ (List.mem_of_getElem? hf)).1 v (List.mem_of_mem_drop (List.mem_of_mem_take hv2))
                · exact (o1 _ (List.mem_of_getElem? hgb)).1 v (List.mem_of_mem_drop hv2)
            · rw [hgb] at hc0
              cases hc0
              simp at h8
          have hl1 : (H.modify b (fun q => (q.1, m_cpy f g sp.toNat dp.toNat nn.toNat))).length = H.length := by simp
          have hs1 : m_sz (H.modify b (fun q => (q.1, m_cpy f g sp.toNat dp.toNat nn.toNat))) = m_sz H := m_modsz H b _ (fun c hc0 => by
            rw [hgb] at hc0
            cases hc0
            exact m_cpy_len e1 e2)
          obtain ⟨b1, b2, b3, b4, b5⟩ := h hok (m_okS_tl t4)
          rw [hl1] at b3
          rw [hs1] at b4
          refine ⟨b1, b2, b3, b4, fun l D K B kh mc ms p e s m args below meth c k0 n0 hc hk hn0 => ?_⟩
          have hp := b5 l D K B kh mc ms p e s m args below meth c k0 n0 hc (by rw [hl1]; exact hk) (by rw [hs1]; exact hn0)
          have hx : i = .invokestatic x := by
            cases i with
            | invokestatic x' => cases hi; rfl
            | invokevirtual x' => cases hi; simp [m_fit] at hfit
            | invokespecial x' => cases hi; simp [m_fit] at hfit
            | _ => exact absurd hi (by simp [m_inv])
          subst hx
          exact s_copy hc hm hd hf hgb (m_okS_hd o3) (m_okS_hd t1) (m_okS_hd t3) hn hdp hsp q1 q2 h8 hp
        · cases hb
      · cases hb
    · cases hb
  · split at hb
    · rename_i b a r0
      cases hb
      have hbi := m_okS_hd o3
      have hai := m_okS_hd (m_okS_tl o3)
      have hin : m_in (if a < b then b else a) = true := by split <;> assumption
      obtain ⟨b1, b2, b3, b4, b5⟩ := h o1 (m_okS_I hin (m_okS_tl (m_okS_tl o3)))
      refine ⟨b1, b2, b3, b4, fun l D K B kh mc ms p e s m args below meth c k0 n0 hc hk hn0 => ?_⟩
      have hp := b5 l D K B kh mc ms p e s m args below meth c k0 n0 hc hk hn0
      have hx : i = .invokestatic x := by
        cases i with
        | invokestatic x' => cases hi; rfl
        | invokevirtual x' => cases hi; simp [m_fit] at hfit
        | invokespecial x' => cases hi; simp [m_fit] at hfit
        | _ => exact absurd hi (by simp [m_inv])
      subst hx
      exact s_max hc hm hd hai hbi (by simp at h8; omega) (by omega) (by omega) hp
    · cases hb
  · split at hb
    · rename_i b a r0
      cases hb
      have hbi := m_okS_hd o3
      have hai := m_okS_hd (m_okS_tl o3)
      have hin : m_in (if b < a then b else a) = true := by split <;> assumption
      obtain ⟨b1, b2, b3, b4, b5⟩ := h o1 (m_okS_I hin (m_okS_tl (m_okS_tl o3)))
      refine ⟨b1, b2, b3, b4, fun l D K B kh mc ms p e s m args below meth c k0 n0 hc hk hn0 => ?_⟩
      have hp := b5 l D K B kh mc ms p e s m args below meth c k0 n0 hc hk hn0
      have hx : i = .invokestatic x := by
        cases i with
        | invokestatic x' => cases hi; rfl
        | invokevirtual x' => cases hi; simp [m_fit] at hfit
        | invokespecial x' => cases hi; simp [m_fit] at hfit
        | _ => exact absurd hi (by simp [m_inv])
      subst hx
      exact s_min hc hm hd hai hbi (by simp at h8; omega) (by omega) (by omega) hp
    · cases hb
  · cases hb
theorem m_ret_S {d y pc i1 : Nat} {ls : List mV} {H : mH} (hg : m_get y pc = some (.return_, i1)) (o1 : m_okH H) (hr : m_rt y = none) : m_S d y pc ls [] H none H := by
  have hd := m_dec hg
  have hi := m_iok_at hg
  obtain rfl : i1 = 1 := by simpa [m_iok] using hi
  refine ⟨o1, (fun k h => by cases h), Nat.le_refl _, Nat.le_refl _, fun l D K B kh mc ms p e s m args below meth c k n hc hk hn => ?_⟩
  intro hkk Hr locs lsr hP hS hl T hT X
  have hz := m_size hkk hP hS hc.2.2.2.2.2.2.2.2.2 hT X
  have hlocks := hc.2.2.2.2.2.2.1
  exact (W.widen (k := mc) (n := ms) (by omega) (by omega) (W.vret hc.1 hc.2.1 (by rw [hc.2.2.1]; exact hr) (fun t ht hW => ⟨rfl, by rw [ht]; exact hz, by rw [ht]; exact hP, hS.F ht⟩) hS.2.2 hd)) T hT X
theorem m_iret_S {d y pc i1 : Nat} {v : Int} {ls : List mV} {H : mH} (hg : m_get y pc = some (.ireturn, i1)) (o1 : m_okH H) (hv : m_in v = true) (hr : m_rok y v = true) : m_S d y pc ls [mI v] H (mI v) H := by
  have hd := m_dec hg
  have hi := m_iok_at hg
  obtain rfl : i1 = 1 := by simpa [m_iok] using hi
  refine ⟨o1, m_okVI hv, Nat.le_refl _, Nat.le_refl _, fun l D K B kh mc ms p e s m args below meth c k n hc hk hn => ?_⟩
  intro hkk Hr locs lsr hP hS hl T hT X
  have hz := m_size hkk hP hS hc.2.2.2.2.2.2.2.2.2 hT X
  have hlocks := hc.2.2.2.2.2.2.1
  simp only [m_rok, Bool.or_eq_true, Bool.and_eq_true, decide_eq_true_eq, beq_iff_eq] at hr
  rcases hr with hr | ⟨hr, hv01⟩
  · exact (W.widen (k := mc) (n := ms) (by omega) (by omega) (W.iret (v := Int32.ofInt v) hc.1 hc.2.1 (by rw [hc.2.2.1]; exact hr) (fun t ht hW => ⟨rfl, by rw [ht]; exact hz, by rw [ht]; exact hP, hS.F ht⟩) hS.2.2 hd)) T hT X
  · exact (W.widen (k := mc) (n := ms) (by omega) (by omega) (W.zret (v := Int32.ofInt v) (ty := .boolean) hc.1 hc.2.1 (by rw [hc.2.2.1]; exact hr) (by rcases hv01 with rfl | rfl <;> rfl) (fun t ht hW => ⟨rfl, by rw [ht]; exact hz, by rw [ht]; exact hP, hS.F ht⟩) hS.2.2 hd)) T hT X
/-- the two methods that read a static array -/
def m_Prims : Prop := ∀ (d z : Nat) (av : List mV) (H : mH) (r : mV), m_prim z = true → m_pv z av = some r → m_okS av → m_okH H → m_CM d z av H r H
theorem ev_sound (hpr : m_Prims) : ∀ (N d y pc : Nat) (ls st : List mV) (H : mH) (r : mV) (H' : mH), y < 163 → ev N d y pc ls st H = some (r, H') → m_okH H → m_okL ls → m_okS st → ls.length = m_mx y → m_S d y pc ls st H r H' := by
  intro N
  induction N with
  | zero => intro d y pc ls st H r H' _ h; cases h
  | succ N ih =>
    intro d y pc ls st H r H' hy h o1 o2 o3 hL
    simp only [ev] at h
    split at h
    · cases h
    · rename_i i len hg
      split at h
      · split at h
        · rename_i hcond
          cases h
          obtain ⟨rfl, hr⟩ := hcond
          exact m_ret_S hg o1 hr
        · cases h
      · split at h
        · split at h
          · cases h
            exact m_iret_S hg o1 (m_okS_hd o3) (by assumption)
          · cases h
        · cases h
      · split at h
        · split at h
          · rename_i hnext
            have ht := m_next_ok hg hnext o1 o2 o3 hL
            exact m_S_step ht (ih _ _ _ _ _ _ _ _ hy h ht.1 ht.2.1 ht.2.2.1 ht.2.2.2.1)
          · cases h
        · split at h
          · rename_i j x hinv _ _ k z d0 hml
            split at h
            · rename_i hfit
              obtain ⟨hlen3, hfit⟩ := hfit
              split at h
              · split at h
                · split at h
                  · rename_i hblt h8
                    exact m_blt_S hlen3 hg hinv hml hfit o1 o3 hblt h8 (fun q1 q3 => ih _ _ _ _ _ _ _ _ hy h q1 o2 q3 hL)
                  · cases h
                · cases h
              · rename_i hk5
                split at h
                · rename_i hcond
                  obtain ⟨hna, h8, hrcv⟩ := hcond
                  have hz163 : z < 163 := by
                    obtain ⟨p1, p2, p3, p4, hlok⟩ := m_ml_ok hml
                    have hk : k = 0 ∨ k = 1 ∨ k = 2 ∨ k = 3 ∨ k = 4 := by omega
                    rcases hk with rfl | rfl | rfl | rfl | rfl <;> simp only [m_lok, Bool.and_eq_true, decide_eq_true_eq] at hlok
                    · exact hlok.1.1.1.1.1.1.1
                    · exact hlok.1.1.1.1
                    · exact hlok.1.1.1.1.1.1.1
                    · exact hlok.1.1.1.1
                    · exact hlok.1.1.1.1.1.1.1
                  have hst : st = (st.take (m_na z)).reverse.reverse ++ st.drop (m_na z) := by simp
                  have oA : m_okS (st.take (m_na z)).reverse := fun v hv => o3 v (List.mem_of_mem_take (List.mem_reverse.mp hv))
                  have oD : m_okS (st.drop (m_na z)) := fun v hv => o3 v (List.mem_of_mem_drop hv)
                  have hn : (st.take (m_na z)).reverse.length = m_na z := by simp; omega
                  split at h
                  · rename_i hprim
                    split at h
                    · rename_i r1 hpv
                      have hM := hpr d0 z _ H r1 hprim hpv oA o1
                      have hr1 : ∃ v, r1 = mI v ∧ m_in v = true := by
                        unfold m_pv at hpv
                        split at hpv
                        · split at hpv
                          · cases hpv
                            refine ⟨_, rfl, ?_⟩
                            split
                            · decide
                            · split <;> decide
                          · cases hpv
                        · split at hpv
                          · cases hpv
                            refine ⟨_, rfl, ?_⟩
                            repeat' split
                            all_goals decide
                          · cases hpv
                        · cases hpv
                      obtain ⟨v, rfl, hv⟩ := hr1
                      have hS := ih _ _ _ _ _ _ _ _ hy h o1 o2 (m_okS_I hv oD) hL
                      rw [hst]
                      exact m_call_S (av := (st.take (m_na z)).reverse) (st := st.drop (m_na z)) hlen3 hg hinv hml hfit hk5 hM hrcv hn h8 (Nat.le_refl _) (Nat.le_refl _) hS
                    · cases h
                  · split at h
                    · rename_i r1 H1 hev
                      have hmx := (m_mok_spec hz163).2.2.1
                      have hS1 := ih _ _ _ _ _ _ _ _ hz163 hev o1 (fun v hv => by
                        rcases List.mem_append.mp hv with hv | hv
                        · exact (oA v hv).1
                        · rw [(List.mem_replicate.mp hv).2]
                          exact fun k e => by cases e) (fun v hv => by cases hv) (by
                        rw [List.length_append, hn, List.length_replicate]
                        omega)
                      obtain ⟨b1, b2, b3, b4, b5⟩ := hS1
                      have hM : m_CM d0 z (st.take (m_na z)).reverse H r1 H1 := fun l D K B kh => m_met_of hz163 hn (fun p e s m A below meth c hc => b5 l D K B kh _ _ p e s m A below meth c 0 0 hc (by omega) (by omega))
                      have oP : m_okS (m_push r1 (st.drop (m_na z))) := by
                        unfold m_push
                        cases r1 with
                        | none => exact oD
                        | some w => exact m_okS_cons b2 (by simp) oD
                      have hS := ih _ _ _ _ _ _ _ _ hy h b1 o2 oP hL
                      rw [hst]
                      exact m_call_S (av := (st.take (m_na z)).reverse) (st := st.drop (m_na z)) hlen3 hg hinv hml hfit hk5 hM hrcv hn h8 b3 b4 hS
                    · cases h
                · cases h
            · cases h
          · cases h
end
section
/-! numbersOf and highestOf: the static array's cell lies before all of ours -/
section MPR
variable {l : Launch} {D : va_G} {K : mK} {B kh d mc ms y : Nat} {p : Program} {e : Env} {s : State} {m : MethodId} {args : Array Value} {below : List Frame} {meth : Method} {c : Code} {Q : State → Prop} {pc : Nat} {ls st : List mV} {H : mH} {k n : Nat}
theorem m_khw : Cond.fieldLink RX3 80 RX3 "KIND_HIGHEST" "[I" ∈ m_tbl := m_at_in (i := 392) (by decide +kernel)
theorem s_khlen (hy : m_own y = 3) (hc : m_ctx D K B kh y p s m args meth c) (hd : decode (m_by y) pc = .ok (.getstatic 80, 3)) (hd2 : decode (m_by y) (pc + 3) = .ok (.arraylength, 1)) (h : m_P l D K B d mc ms y p e s m args below meth c Q (pc + 4) ls (mI 6 :: st) H k n) : m_P l D K B d mc ms y p e s m args below meth c Q pc ls st H k n := by
  intro hk Hr locs lsr hP hS hl
  obtain ⟨-, -, -, hZ, hX, hkh⟩ := hc.2.2.2.2.2.2.2.2.1
  have hB := hc.2.2.2.2.2.2.2.2.2
  refine va_gets hc.1 hc.2.1 hZ hS hc.2.2.2.2.1 (by rw [hy]; exact hc.2.2.2.2.2.1 _ m_khw) (fun _ h9 => h9) hd ?_
  exact va_slen hc.1 hc.2.1 hX (by omega) (by omega) hS hd2 (h hk Hr locs lsr hP hS hl)
theorem s_khget (hy : m_own y = 3) (hc : m_ctx D K B kh y p s m args meth c) {i : Int} (hd : decode (m_by y) pc = .ok (.getstatic 80, 3)) (hd1 : decode (m_by y) (pc + 3) = .ok (.iload_n 1, 1)) (hd2 : decode (m_by y) (pc + 4) = .ok (.iaload, 1)) (h1 : ls[1]? = some (mI i)) (hi : 0 ≤ i ∧ i < 6) (h : m_P l D K B d mc ms y p e s m args below meth c Q (pc + 5) ls (mI (if i = 4 then 5 else 9) :: st) H k n) : m_P l D K B d mc ms y p e s m args below meth c Q pc ls st H k n := by
  intro hk Hr locs lsr hP hS hl
  obtain ⟨-, -, -, hZ, hX, hkh⟩ := hc.2.2.2.2.2.2.2.2.1
  have hB := hc.2.2.2.2.2.2.2.2.2
  have hin : m_in i = true := by rw [m_in_iff]; omega
  refine va_gets hc.1 hc.2.1 hZ hS hc.2.2.2.2.1 (by rw [hy]; exact hc.2.2.2.2.2.1 _ m_khw) (fun _ h9 => h9) hd ?_
  refine lv_iload_n hc.1 hc.2.1 hd1 rfl (hl.2.2 _ _ h1) ?_
  refine va_sld hc.1 hc.2.1 hX (by omega) (by omega) hS (m_vin hin hi.1 (by omega)) hd2 ?_
  have e1 : m_kh (Int32.ofInt i).toNatClampNeg = Int32.ofInt (if i = 4 then 5 else 9) := by
    rw [m_nat hin]
    unfold m_kh
    by_cases h4 : i = 4
    · rw [if_pos h4, if_pos (by omega)]; rfl
    · rw [if_neg h4, if_neg (by omega)]; rfl
  rw [e1]
  exact h hk Hr locs lsr hP hS hl
end MPR
theorem m_prims : m_Prims := by
  intro d z av H r hz hpv oA oH l D K B kh
  unfold m_pv at hpv
  split at hpv
  · rename_i cv
    split at hpv
    · rename_i h25
      subst h25
      cases hpv
      have hcv : m_in cv = true := m_okS_hd oA
      refine m_met_of (by decide) rfl (fun p e s m A below meth c hc => ?_)
      rw [Nat.sub_self, Nat.sub_self]
      have ret : ∀ (pc : Nat) (v : Int), m_get 25 pc = some (.ireturn, 1) → m_in v = true → m_P l D K B d 0 0 25 p e s m A below meth c (MQ below (m_Qc D K B (mI v) H) A s 0 0 (fun q => B ≤ q)) pc [mI cv] [mI v] H 0 0 := fun pc v hg hv => (m_iret_S (d := d) (ls := [mI cv]) hg oH hv rfl).2.2.2.2 l D K B kh 0 0 p e s m A below meth c 0 0 hc (by omega) (by omega)
      refine s_iload_n (v := cv) hc (m_dec (by decide +kernel : m_get 25 0 = some (.iload_n 0, 1))) rfl ?_
      have hsw := m_dec (by decide +kernel : m_get 25 1 = some (.lookupswitch 42 #[(107, 35), (115, 40), (119, 40)], 35))
      by_cases h1 : cv = 107
      · rw [if_pos h1]
        refine s_lookup (tgt := 36) hc hsw hcv (by decide) (by simp [Op.lookupswitch.offset, h1, m_jmp]) ?_
        exact s_khlen rfl hc (m_dec (by decide +kernel : m_get 25 36 = some (.getstatic 80, 3))) (m_dec (by decide +kernel : m_get 25 39 = some (.arraylength, 1))) (ret 40 6 (by decide +kernel) (by decide))
      · rw [if_neg h1]
        by_cases h2 : cv = 115 ∨ cv = 119
        · rw [if_pos h2]
          refine s_lookup (tgt := 41) hc hsw hcv (by decide) (by rcases h2 with rfl | rfl <;> simp [Op.lookupswitch.offset, m_jmp]) ?_
          exact s_iconst hc (m_dec (by decide +kernel : m_get 25 41 = some (.iconst 2, 1))) (ret 42 2 (by decide +kernel) (by decide))
        · rw [if_neg h2]
          refine s_lookup (tgt := 43) hc hsw hcv (by decide) (by simp [Op.lookupswitch.offset, m_jmp]; omega) ?_
          exact s_iconst hc (m_dec (by decide +kernel : m_get 25 43 = some (.iconst 1, 1))) (ret 44 1 (by decide +kernel) (by decide))
    · cases hpv
  · rename_i cv iv
    split at hpv
    · rename_i h27
      subst h27
      cases hpv
      have hcv : m_in cv = true := m_okS_hd oA
      have hiv : m_in iv = true := m_okS_hd (m_okS_tl oA)
      refine m_met_of (by decide) rfl (fun p e s m A below meth c hc => ?_)
      rw [Nat.sub_self, Nat.sub_self]
      have ret : ∀ (pc : Nat) (v : Int), m_get 27 pc = some (.ireturn, 1) → m_in v = true → m_P l D K B d 0 0 27 p e s m A below meth c (MQ below (m_Qc D K B (mI v) H) A s 0 0 (fun q => B ≤ q)) pc [mI cv, mI iv] [mI v] H 0 0 := fun pc v hg hv => (m_iret_S (d := d) (ls := [mI cv, mI iv]) hg oH hv rfl).2.2.2.2 l D K B kh 0 0 p e s m A below meth c 0 0 hc (by omega) (by omega)
      refine s_iload_n (v := cv) hc (m_dec (by decide +kernel : m_get 27 0 = some (.iload_n 0, 1))) rfl ?_
      have hsw := m_dec (by decide +kernel : m_get 27 1 = some (.lookupswitch 78 #[(107, 35), (115, 67), (119, 57)], 35))
      by_cases h1 : cv = 107
      · rw [if_pos h1]
        refine s_lookup (tgt := 36) hc hsw hcv (by decide) (by simp [Op.lookupswitch.offset, h1, m_jmp]) ?_
        refine s_iload_n (v := iv) hc (m_dec (by decide +kernel : m_get 27 36 = some (.iload_n 1, 1))) rfl ?_
        refine s_if (tgt := 56) hc (m_dec (by decide +kernel : m_get 27 37 = some (.ifCond .lt 19, 3))) (by decide) hiv (fun q => ?_) (fun q => ?_)
        · have q : iv < 0 := by simpa [m_cmp] using q
          rw [if_neg (by omega)]
          exact s_iconst hc (m_dec (by decide +kernel : m_get 27 56 = some (.iconst (-1), 1))) (ret 57 (-1) (by decide +kernel) (by decide))
        · have q : 0 ≤ iv := by simpa [m_cmp] using q
          refine s_iload_n (v := iv) hc (m_dec (by decide +kernel : m_get 27 40 = some (.iload_n 1, 1))) rfl ?_
          refine s_khlen rfl hc (m_dec (by decide +kernel : m_get 27 41 = some (.getstatic 80, 3))) (m_dec (by decide +kernel : m_get 27 44 = some (.arraylength, 1))) ?_
          refine s_icmp (tgt := 56) hc (m_dec (by decide +kernel : m_get 27 45 = some (.if_icmp .ge 11, 3))) (by decide) hiv (by decide) (fun q2 => ?_) (fun q2 => ?_)
          · have q2 : 6 ≤ iv := by simpa [m_cmp] using q2
            rw [if_neg (by omega)]
            exact s_iconst hc (m_dec (by decide +kernel : m_get 27 56 = some (.iconst (-1), 1))) (ret 57 (-1) (by decide +kernel) (by decide))
          · have q2 : iv < 6 := by simpa [m_cmp] using q2
            rw [if_pos (by omega)]
            refine s_khget rfl hc (m_dec (by decide +kernel : m_get 27 48 = some (.getstatic 80, 3))) (m_dec (by decide +kernel : m_get 27 51 = some (.iload_n 1, 1))) (m_dec (by decide +kernel : m_get 27 52 = some (.iaload, 1))) rfl ⟨q, q2⟩ ?_
            exact s_goto (tgt := 57) hc (m_dec (by decide +kernel : m_get 27 53 = some (.goto 4, 3))) (by decide) (ret 57 _ (by decide +kernel) (by split <;> decide))
      · rw [if_neg h1]
        by_cases h2 : cv = 119
        · rw [if_pos h2]
          refine s_lookup (tgt := 58) hc hsw hcv (by decide) (by simp [Op.lookupswitch.offset, h2, m_jmp]) ?_
          refine s_iload_n (v := iv) hc (m_dec (by decide +kernel : m_get 27 58 = some (.iload_n 1, 1))) rfl ?_
          refine s_if (tgt := 66) hc (m_dec (by decide +kernel : m_get 27 59 = some (.ifCond .ne 7, 3))) (by decide) hiv (fun q => ?_) (fun q => ?_)
          · have q : ¬ iv = 0 := by simpa [m_cmp] using q
            rw [if_neg q]
            exact s_iconst hc (m_dec (by decide +kernel : m_get 27 66 = some (.iconst 2, 1))) (ret 67 2 (by decide +kernel) (by decide))
          · have q : iv = 0 := by simpa [m_cmp] using q
            rw [if_pos q]
            exact s_iconst hc (m_dec (by decide +kernel : m_get 27 62 = some (.iconst 3, 1))) (s_goto (tgt := 67) hc (m_dec (by decide +kernel : m_get 27 63 = some (.goto 4, 3))) (by decide) (ret 67 3 (by decide +kernel) (by decide)))
        · rw [if_neg h2]
          by_cases h3 : cv = 115
          · rw [if_pos h3]
            refine s_lookup (tgt := 68) hc hsw hcv (by decide) (by simp [Op.lookupswitch.offset, h3, m_jmp]) ?_
            refine s_iload_n (v := iv) hc (m_dec (by decide +kernel : m_get 27 68 = some (.iload_n 1, 1))) rfl ?_
            refine s_if (tgt := 77) hc (m_dec (by decide +kernel : m_get 27 69 = some (.ifCond .ne 8, 3))) (by decide) hiv (fun q => ?_) (fun q => ?_)
            · have q : ¬ iv = 0 := by simpa [m_cmp] using q
              rw [if_neg q]
              exact s_iconst hc (m_dec (by decide +kernel : m_get 27 77 = some (.iconst 4, 1))) (ret 78 4 (by decide +kernel) (by decide))
            · have q : iv = 0 := by simpa [m_cmp] using q
              rw [if_pos q]
              exact s_bipush hc (m_dec (by decide +kernel : m_get 27 72 = some (.bipush 9, 2))) (by decide) (s_goto (tgt := 78) hc (m_dec (by decide +kernel : m_get 27 74 = some (.goto 4, 3))) (by decide) (ret 78 9 (by decide +kernel) (by decide)))
          · rw [if_neg h3]
            refine s_lookup (tgt := 79) hc hsw hcv (by decide) (by simp [Op.lookupswitch.offset, m_jmp]; omega) ?_
            exact s_bipush hc (m_dec (by decide +kernel : m_get 27 79 = some (.bipush 9, 2))) (by decide) (ret 81 9 (by decide +kernel) (by decide))
    · cases hpv
  · cases hpv
end
section
/-! a method's run as a whole -/
def Call (d y : Nat) (av : List mV) (H : mH) (r : mV) (H1 : mH) : Prop := ∃ N, ev N d y 0 (av ++ List.replicate (m_mx y - m_na y) none) [] H = some (r, H1)
theorem Call_met {d y : Nat} {av : List mV} {H : mH} {r : mV} {H1 : mH} (h : Call d y av H r H1) (hy : y < 163) (ha : av.length = m_na y) (o1 : m_okH H) (o2 : m_okS av) : m_okH H1 ∧ m_okV r ∧ H.length ≤ H1.length ∧ m_sz H ≤ m_sz H1 ∧ m_CM d y av H r H1 := by
  obtain ⟨N, h⟩ := h
  have hmx := (m_mok_spec hy).2.2.1
  obtain ⟨b1, b2, b3, b4, b5⟩ := ev_sound m_prims N d y 0 _ _ _ _ _ hy h o1 (fun v hv => by
    rcases List.mem_append.mp hv with hv | hv
    · exact (o2 v hv).1
    · rw [(List.mem_replicate.mp hv).2]
      exact fun k e => by cases e) (fun v hv => by cases hv) (by
    rw [List.length_append, ha, List.length_replicate]
    omega)
  exact ⟨b1, b2, b3, b4, fun l D K B kh => m_met_of hy ha (fun p e s m A below meth c hc => b5 l D K B kh _ _ p e s m A below meth c 0 0 hc (by omega) (by omega))⟩
end
section
/-! runs from a place on: rules -/
theorem ev_mono : ∀ (N d y pc : Nat) (ls st : List mV) (H : mH) (x : mV × mH), ev N d y pc ls st H = some x → ∀ (M e : Nat), N ≤ M → d ≤ e → ev M e y pc ls st H = some x := by
  intro N
  induction N with
  | zero => intro d y pc ls st H x h; cases h
  | succ N ih =>
    intro d y pc ls st H x h M e hM he
    obtain ⟨M, rfl⟩ : ∃ M', M = M' + 1 := ⟨M - 1, by omega⟩
    have hM' : N ≤ M := by omega
    cases hg : m_get y pc with
    | none => simp only [ev, hg] at h; cases h
    | some q =>
      obtain ⟨i, len⟩ := q
      by_cases m1 : i = .return_
      · subst m1
        simp only [ev, hg] at h ⊢
        exact h
      by_cases m2 : i = .ireturn
      · subst m2
        simp only [ev, hg] at h ⊢
        exact h
      simp only [ev, hg] at h ⊢
      · · split at h
          · rename_i hinv
            try rw [hinv]
            try simp only
            split at h
            · rename_i hnext
              try rw [hnext]
              exact ih _ _ _ _ _ _ _ h M e hM' he
            · cases h
          · rename_i j xx hinv
            try rw [hinv]
            try simp only
            split at h
            · rename_i k z d0 hml
              obtain ⟨e, rfl⟩ : ∃ e', e = e' + 1 := ⟨e - 1, by omega⟩
              try rw [hml]
              try simp only
              split at h
              · rename_i hfit
                rw [if_pos hfit]
                split at h
                · rename_i hk
                  rw [if_pos hk]
                  split at h
                  · rename_i hblt
                    try rw [hblt]
                    try simp only
                    split at h
                    · rename_i h8
                      rw [if_pos h8]
                      exact ih _ _ _ _ _ _ _ h M _ hM' (by omega)
                    · cases h
                  · cases h
                · rename_i hk
                  rw [if_neg hk]
                  split at h
                  · rename_i hc
                    rw [if_pos hc]
                    split at h
                    · rename_i hp
                      rw [if_pos hp]
                      split at h
                      · rename_i hpv
                        try rw [hpv]
                        exact ih _ _ _ _ _ _ _ h M _ hM' (by omega)
                      · cases h
                    · rename_i hp
                      rw [if_neg hp]
                      split at h
                      · rename_i hev
                        rw [ih _ _ _ _ _ _ _ hev M e hM' (by omega)]
                        exact ih _ _ _ _ _ _ _ h M _ hM' (by omega)
                      · cases h
                  · cases h
              · cases h
            · cases h
def Ev (d y pc : Nat) (ls st : List mV) (H : mH) (r : mV) (H1 : mH) : Prop := ∃ N, ev N d y pc ls st H = some (r, H1)
theorem Call_up {d e y : Nat} {av : List mV} {H : mH} {r : mV} {H1 : mH} (h : Call d y av H r H1) (he : d ≤ e) : Call e y av H r H1 := by
  obtain ⟨N, h⟩ := h
  exact ⟨N, ev_mono _ _ _ _ _ _ _ _ h N e (Nat.le_refl _) he⟩
theorem Call_of {d y : Nat} {av ls : List mV} {H : mH} {r : mV} {H1 : mH} (hl : av ++ List.replicate (m_mx y - m_na y) none = ls) (h : Ev d y 0 ls [] H r H1) : Call d y av H r H1 := by
  obtain ⟨N, h⟩ := h
  exact ⟨N, by rw [hl]; exact h⟩
theorem Ev_cast {d y pc : Nat} {ls ls' st st' : List mV} {H H' : mH} {r : mV} {H1 : mH} (h : Ev d y pc ls st H r H1) (e1 : ls' = ls) (e2 : H' = H) (e3 : st' = st := by rfl) : Ev d y pc ls' st' H' r H1 := by subst e1; subst e2; subst e3; exact h
/-- the loop rule: down from the end -/
theorem E_loop {n : Nat} (C : Nat → Prop) (hs : ∀ i, i < n → C (i + 1) → C i) (he : C n) : ∀ i, i ≤ n → C i := by
  intro i hi
  obtain ⟨k, hk⟩ : ∃ k, n = i + k := ⟨n - i, by omega⟩
  induction k generalizing i with
  | zero => rw [show i = n by omega]; exact he
  | succ k ih => exact hs i (by omega) (ih (i + 1) (by omega) (by omega))
section EV
variable {d y pc pc' : Nat} {ls st : List mV} {H : mH} {r : mV} {H1 : mH}
theorem E_next {i : Instr} {len : Nat} {ls' st' : List mV} {H' : mH} (hg : m_get y pc = some (i, len)) (hi : m_inv i = none) (n1 : i ≠ .return_) (n2 : i ≠ .ireturn) (hn : m_next y i len pc ls st H = some (pc', ls', st', H')) (h : Ev d y pc' ls' st' H' r H1) : Ev d y pc ls st H r H1 := by
  obtain ⟨N, h⟩ := h
  refine ⟨N + 1, ?_⟩
  simp only [ev, hg, hi, hn]
  exact h
theorem E_iconst {n : Int} (hg : m_get y pc = some (.iconst n, 1)) (hn : m_in n = true) (hp : pc + 1 = pc') (h : Ev d y pc' ls (mI n :: st) H r H1) : Ev d y pc ls st H r H1 :=
  E_next hg rfl (by simp) (by simp) (by simp [m_next, hn, hp]) h
theorem E_bipush {n : Int} (hg : m_get y pc = some (.bipush n, 2)) (hn : -128 ≤ n ∧ n ≤ 127) (hp : pc + 2 = pc') (h : Ev d y pc' ls (mI n :: st) H r H1) : Ev d y pc ls st H r H1 :=
  E_next hg rfl (by simp) (by simp) (by simp [m_next, hn, hp]) h
theorem E_sipush {n : Int} (hg : m_get y pc = some (.sipush n, 3)) (hn : -32768 ≤ n ∧ n ≤ 32767) (hp : pc + 3 = pc') (h : Ev d y pc' ls (mI n :: st) H r H1) : Ev d y pc ls st H r H1 :=
  E_next hg rfl (by simp) (by simp) (by simp [m_next, hn, hp]) h
theorem E_ldcw {x : Nat} {v : Int} (hg : m_get y pc = some (.ldc_w x, 3)) (hv : m_cn (m_own y) x = some v) (hn : m_in v = true) (hp : pc + 3 = pc') (h : Ev d y pc' ls (mI v :: st) H r H1) : Ev d y pc ls st H r H1 :=
  E_next hg rfl (by simp) (by simp) (by simp [m_next, hv, hn, hp]) h
theorem E_iload_n {k : Fin 4} {v : Int} (hg : m_get y pc = some (.iload_n k, 1)) (hv : ls[(k : Nat)]? = some (mI v)) (hp : pc + 1 = pc') (h : Ev d y pc' ls (mI v :: st) H r H1) : Ev d y pc ls st H r H1 :=
  E_next hg rfl (by simp) (by simp) (by simp [m_next, hv, hp]) h
theorem E_iload {k : Nat} {v : Int} (hg : m_get y pc = some (.iload k, 2)) (hv : ls[k]? = some (mI v)) (hp : pc + 2 = pc') (h : Ev d y pc' ls (mI v :: st) H r H1) : Ev d y pc ls st H r H1 :=
  E_next hg rfl (by simp) (by simp) (by simp [m_next, hv, hp]) h
theorem E_aload_n {k : Fin 4} {v : Nat} (hg : m_get y pc = some (.aload_n k, 1)) (hv : ls[(k : Nat)]? = some (mR v)) (hp : pc + 1 = pc') (h : Ev d y pc' ls (mR v :: st) H r H1) : Ev d y pc ls st H r H1 :=
  E_next hg rfl (by simp) (by simp) (by simp [m_next, hv, hp]) h
theorem E_istore_n {k : Fin 4} {v : Int} {ls' : List mV} (hg : m_get y pc = some (.istore_n k, 1)) (hk : (k : Nat) < ls.length) (hl : ls.set (k : Nat) (mI v) = ls') (hp : pc + 1 = pc') (h : Ev d y pc' ls' st H r H1) : Ev d y pc ls (mI v :: st) H r H1 :=
  E_next hg rfl (by simp) (by simp) (by simp only [m_next, hk, hp, if_true]; rw [← hl]) h
theorem E_istore {k : Nat} {v : Int} {ls' : List mV} (hg : m_get y pc = some (.istore k, 2)) (hk : k < ls.length) (hl : ls.set k (mI v) = ls') (hp : pc + 2 = pc') (h : Ev d y pc' ls' st H r H1) : Ev d y pc ls (mI v :: st) H r H1 :=
  E_next hg rfl (by simp) (by simp) (by simp only [m_next, hk, hp, if_true]; rw [← hl]) h
theorem E_astore_n {k : Fin 4} {v : Nat} {ls' : List mV} (hg : m_get y pc = some (.astore_n k, 1)) (hk : (k : Nat) < ls.length) (hl : ls.set (k : Nat) (mR v) = ls') (hp : pc + 1 = pc') (h : Ev d y pc' ls' st H r H1) : Ev d y pc ls (mR v :: st) H r H1 :=
  E_next hg rfl (by simp) (by simp) (by simp only [m_next, hk, hp, if_true]; rw [← hl]) h
theorem E_iinc {k : Nat} {n v : Int} {ls' : List mV} (hg : m_get y pc = some (.iinc k n, 3)) (hv : ls[k]? = some (mI v)) (hn : m_in (v + n) = true) (hl : ls.set k (mI (v + n)) = ls') (hp : pc + 3 = pc') (h : Ev d y pc' ls' st H r H1) : Ev d y pc ls st H r H1 :=
  E_next hg rfl (by simp) (by simp) (by simp only [m_next, hv, hn, hp, if_true]; rw [← hl]) h
theorem E_iadd {a b : Int} (hg : m_get y pc = some (.iadd, 1)) (hn : m_in (a + b) = true) (hp : pc + 1 = pc') (h : Ev d y pc' ls (mI (a + b) :: st) H r H1) : Ev d y pc ls (mI b :: mI a :: st) H r H1 :=
  E_next hg rfl (by simp) (by simp) (by simp [m_next, m_bin, hn, hp]) h
theorem E_isub {a b : Int} (hg : m_get y pc = some (.isub, 1)) (hn : m_in (a - b) = true) (hp : pc + 1 = pc') (h : Ev d y pc' ls (mI (a - b) :: st) H r H1) : Ev d y pc ls (mI b :: mI a :: st) H r H1 :=
  E_next hg rfl (by simp) (by simp) (by simp [m_next, m_bin, hn, hp]) h
theorem E_imul {a b : Int} (hg : m_get y pc = some (.imul, 1)) (hn : m_in (a * b) = true) (hp : pc + 1 = pc') (h : Ev d y pc' ls (mI (a * b) :: st) H r H1) : Ev d y pc ls (mI b :: mI a :: st) H r H1 :=
  E_next hg rfl (by simp) (by simp) (by simp [m_next, m_bin, hn, hp]) h
theorem E_idiv {a b : Int} (hg : m_get y pc = some (.idiv, 1)) (hn : ¬ (b = 0 ∨ b = -1)) (hp : pc + 1 = pc') (h : Ev d y pc' ls (mI (a.tdiv b) :: st) H r H1) : Ev d y pc ls (mI b :: mI a :: st) H r H1 :=
  E_next hg rfl (by simp) (by simp) (by simp only [m_next, hp]; rw [if_neg hn]) h
theorem E_irem {a b : Int} (hg : m_get y pc = some (.irem, 1)) (hn : ¬ (b = 0 ∨ b = -1)) (hp : pc + 1 = pc') (h : Ev d y pc' ls (mI (a.tmod b) :: st) H r H1) : Ev d y pc ls (mI b :: mI a :: st) H r H1 :=
  E_next hg rfl (by simp) (by simp) (by simp only [m_next, hp]; rw [if_neg hn]) h
theorem E_iand {a b : Int} (hg : m_get y pc = some (.iand, 1)) (hp : pc + 1 = pc') (h : Ev d y pc' ls (mI (m_and a b) :: st) H r H1) : Ev d y pc ls (mI b :: mI a :: st) H r H1 :=
  E_next hg rfl (by simp) (by simp) (by simp only [m_next, hp]) h
theorem E_ior {a b : Int} (hg : m_get y pc = some (.ior, 1)) (hp : pc + 1 = pc') (h : Ev d y pc' ls (mI (m_or a b) :: st) H r H1) : Ev d y pc ls (mI b :: mI a :: st) H r H1 :=
  E_next hg rfl (by simp) (by simp) (by simp only [m_next, hp]) h
theorem E_ixor {a b : Int} (hg : m_get y pc = some (.ixor, 1)) (hp : pc + 1 = pc') (h : Ev d y pc' ls (mI (m_xor a b) :: st) H r H1) : Ev d y pc ls (mI b :: mI a :: st) H r H1 :=
  E_next hg rfl (by simp) (by simp) (by simp only [m_next, hp]) h
theorem E_ishl {a b : Int} (hg : m_get y pc = some (.ishl, 1)) (hp : pc + 1 = pc') (h : Ev d y pc' ls (mI (m_shl a b) :: st) H r H1) : Ev d y pc ls (mI b :: mI a :: st) H r H1 :=
  E_next hg rfl (by simp) (by simp) (by simp only [m_next, hp]) h
theorem E_ishr {a b : Int} (hg : m_get y pc = some (.ishr, 1)) (hp : pc + 1 = pc') (h : Ev d y pc' ls (mI (m_shr a b) :: st) H r H1) : Ev d y pc ls (mI b :: mI a :: st) H r H1 :=
  E_next hg rfl (by simp) (by simp) (by simp only [m_next, hp]) h
theorem E_iushr {a b : Int} (hg : m_get y pc = some (.iushr, 1)) (hp : pc + 1 = pc') (h : Ev d y pc' ls (mI (m_ushr a b) :: st) H r H1) : Ev d y pc ls (mI b :: mI a :: st) H r H1 :=
  E_next hg rfl (by simp) (by simp) (by simp only [m_next, hp]) h
theorem E_dup {v : Int ⊕ Nat} (hg : m_get y pc = some (.dup, 1)) (hp : pc + 1 = pc') (h : Ev d y pc' ls (some v :: some v :: st) H r H1) : Ev d y pc ls (some v :: st) H r H1 :=
  E_next hg rfl (by simp) (by simp) (by simp only [m_next, hp]) h
theorem E_dup2 {v w : Int ⊕ Nat} (hg : m_get y pc = some (.dup2, 1)) (hp : pc + 1 = pc') (h : Ev d y pc' ls (some v :: some w :: some v :: some w :: st) H r H1) : Ev d y pc ls (some v :: some w :: st) H r H1 :=
  E_next hg rfl (by simp) (by simp) (by simp only [m_next, hp]) h
theorem E_goto {off : Int} (hg : m_get y pc = some (.goto off, 3)) (hp : m_jmp pc off = some pc') (h : Ev d y pc' ls st H r H1) : Ev d y pc ls st H r H1 :=
  E_next hg rfl (by simp) (by simp) (by simp [m_next, hp]) h
theorem E_if {c : ClassFile.Cond} {off a : Int} {pt : Nat} (hg : m_get y pc = some (.ifCond c off, 3)) (hp : pc + 3 = pc') (ht : m_jmp pc off = some pt) (h1 : m_cmp c a 0 = true → Ev d y pt ls st H r H1) (h2 : m_cmp c a 0 = false → Ev d y pc' ls st H r H1) : Ev d y pc ls (mI a :: st) H r H1 := by
  cases hc : m_cmp c a 0 with
  | true => exact E_next hg rfl (by simp) (by simp) (by simp only [m_next, hc, ht]; rfl) (h1 hc)
  | false => exact E_next hg rfl (by simp) (by simp) (by simp [m_next, hc, hp]) (h2 hc)
theorem E_icmp {c : ClassFile.Cond} {off a b : Int} {pt : Nat} (hg : m_get y pc = some (.if_icmp c off, 3)) (hp : pc + 3 = pc') (ht : m_jmp pc off = some pt) (h1 : m_cmp c a b = true → Ev d y pt ls st H r H1) (h2 : m_cmp c a b = false → Ev d y pc' ls st H r H1) : Ev d y pc ls (mI b :: mI a :: st) H r H1 := by
  cases hc : m_cmp c a b with
  | true => exact E_next hg rfl (by simp) (by simp) (by simp only [m_next, hc, ht]; rfl) (h1 hc)
  | false => exact E_next hg rfl (by simp) (by simp) (by simp [m_next, hc, hp]) (h2 hc)
theorem E_ifeq {off a : Int} {pt : Nat} (hg : m_get y pc = some (.ifCond .eq off, 3)) (hp : pc + 3 = pc') (ht : m_jmp pc off = some pt) (h1 : a = 0 → Ev d y pt ls st H r H1) (h2 : ¬ a = 0 → Ev d y pc' ls st H r H1) : Ev d y pc ls (mI a :: st) H r H1 :=
  E_if hg hp ht (fun q => h1 (by simpa [m_cmp] using q)) (fun q => h2 (by simpa [m_cmp] using q))
theorem E_iceq {off a b : Int} {pt : Nat} (hg : m_get y pc = some (.if_icmp .eq off, 3)) (hp : pc + 3 = pc') (ht : m_jmp pc off = some pt) (h1 : a = b → Ev d y pt ls st H r H1) (h2 : ¬ a = b → Ev d y pc' ls st H r H1) : Ev d y pc ls (mI b :: mI a :: st) H r H1 :=
  E_icmp hg hp ht (fun q => h1 (by simpa [m_cmp] using q)) (fun q => h2 (by simpa [m_cmp] using q))
theorem E_ifne {off a : Int} {pt : Nat} (hg : m_get y pc = some (.ifCond .ne off, 3)) (hp : pc + 3 = pc') (ht : m_jmp pc off = some pt) (h1 : ¬ a = 0 → Ev d y pt ls st H r H1) (h2 : a = 0 → Ev d y pc' ls st H r H1) : Ev d y pc ls (mI a :: st) H r H1 :=
  E_if hg hp ht (fun q => h1 (by simpa [m_cmp] using q)) (fun q => h2 (by simpa [m_cmp] using q))
theorem E_icne {off a b : Int} {pt : Nat} (hg : m_get y pc = some (.if_icmp .ne off, 3)) (hp : pc + 3 = pc') (ht : m_jmp pc off = some pt) (h1 : ¬ a = b → Ev d y pt ls st H r H1) (h2 : a = b → Ev d y pc' ls st H r H1) : Ev d y pc ls (mI b :: mI a :: st) H r H1 :=
  E_icmp hg hp ht (fun q => h1 (by simpa [m_cmp] using q)) (fun q => h2 (by simpa [m_cmp] using q))
theorem E_iflt {off a : Int} {pt : Nat} (hg : m_get y pc = some (.ifCond .lt off, 3)) (hp : pc + 3 = pc') (ht : m_jmp pc off = some pt) (h1 : a < 0 → Ev d y pt ls st H r H1) (h2 : 0 ≤ a → Ev d y pc' ls st H r H1) : Ev d y pc ls (mI a :: st) H r H1 :=
  E_if hg hp ht (fun q => h1 (by simpa [m_cmp] using q)) (fun q => h2 (by simpa [m_cmp] using q))
theorem E_iclt {off a b : Int} {pt : Nat} (hg : m_get y pc = some (.if_icmp .lt off, 3)) (hp : pc + 3 = pc') (ht : m_jmp pc off = some pt) (h1 : a < b → Ev d y pt ls st H r H1) (h2 : b ≤ a → Ev d y pc' ls st H r H1) : Ev d y pc ls (mI b :: mI a :: st) H r H1 :=
  E_icmp hg hp ht (fun q => h1 (by simpa [m_cmp] using q)) (fun q => h2 (by simpa [m_cmp] using q))
theorem E_ifge {off a : Int} {pt : Nat} (hg : m_get y pc = some (.ifCond .ge off, 3)) (hp : pc + 3 = pc') (ht : m_jmp pc off = some pt) (h1 : 0 ≤ a → Ev d y pt ls st H r H1) (h2 : a < 0 → Ev d y pc' ls st H r H1) : Ev d y pc ls (mI a :: st) H r H1 :=
  E_if hg hp ht (fun q => h1 (by simpa [m_cmp] using q)) (fun q => h2 (by simpa [m_cmp] using q))
theorem E_icge {off a b : Int} {pt : Nat} (hg : m_get y pc = some (.if_icmp .ge off, 3)) (hp : pc + 3 = pc') (ht : m_jmp pc off = some pt) (h1 : b ≤ a → Ev d y pt ls st H r H1) (h2 : a < b → Ev d y pc' ls st H r H1) : Ev d y pc ls (mI b :: mI a :: st) H r H1 :=
  E_icmp hg hp ht (fun q => h1 (by simpa [m_cmp] using q)) (fun q => h2 (by simpa [m_cmp] using q))
theorem E_ifgt {off a : Int} {pt : Nat} (hg : m_get y pc = some (.ifCond .gt off, 3)) (hp : pc + 3 = pc') (ht : m_jmp pc off = some pt) (h1 : 0 < a → Ev d y pt ls st H r H1) (h2 : a ≤ 0 → Ev d y pc' ls st H r H1) : Ev d y pc ls (mI a :: st) H r H1 :=
  E_if hg hp ht (fun q => h1 (by simpa [m_cmp] using q)) (fun q => h2 (by simpa [m_cmp] using q))
theorem E_icgt {off a b : Int} {pt : Nat} (hg : m_get y pc = some (.if_icmp .gt off, 3)) (hp : pc + 3 = pc') (ht : m_jmp pc off = some pt) (h1 : b < a → Ev d y pt ls st H r H1) (h2 : a ≤ b → Ev d y pc' ls st H r H1) : Ev d y pc ls (mI b :: mI a :: st) H r H1 :=
  E_icmp hg hp ht (fun q => h1 (by simpa [m_cmp] using q)) (fun q => h2 (by simpa [m_cmp] using q))
theorem E_ifle {off a : Int} {pt : Nat} (hg : m_get y pc = some (.ifCond .le off, 3)) (hp : pc + 3 = pc') (ht : m_jmp pc off = some pt) (h1 : a ≤ 0 → Ev d y pt ls st H r H1) (h2 : 0 < a → Ev d y pc' ls st H r H1) : Ev d y pc ls (mI a :: st) H r H1 :=
  E_if hg hp ht (fun q => h1 (by simpa [m_cmp] using q)) (fun q => h2 (by simpa [m_cmp] using q))
theorem E_icle {off a b : Int} {pt : Nat} (hg : m_get y pc = some (.if_icmp .le off, 3)) (hp : pc + 3 = pc') (ht : m_jmp pc off = some pt) (h1 : a ≤ b → Ev d y pt ls st H r H1) (h2 : b < a → Ev d y pc' ls st H r H1) : Ev d y pc ls (mI b :: mI a :: st) H r H1 :=
  E_icmp hg hp ht (fun q => h1 (by simpa [m_cmp] using q)) (fun q => h2 (by simpa [m_cmp] using q))
theorem E_table {dd lo hi a : Int} {offs : Array Int} {len pt : Nat} (hg : m_get y pc = some (.tableswitch dd lo hi offs, len)) (ht : (if a < lo ∨ hi < a then m_jmp pc dd else (offs[(a - lo).toNat]?).bind (m_jmp pc)) = some pt) (h : Ev d y pt ls st H r H1) : Ev d y pc ls (mI a :: st) H r H1 :=
  E_next hg rfl (by simp) (by simp) (by simp only [m_next, ht]; rfl) h
theorem E_lookup {dd a : Int} {ps : Array (Int × Int)} {len pt : Nat} (hg : m_get y pc = some (.lookupswitch dd ps, len)) (hs : (ps.toList.zip (ps.toList.drop 1)).all (fun (a, next) => a.1 < next.1) = true) (ht : m_jmp pc (Op.lookupswitch.offset ps.toList dd a) = some pt) (h : Ev d y pt ls st H r H1) : Ev d y pc ls (mI a :: st) H r H1 :=
  E_next hg rfl (by simp) (by simp) (by simp only [m_next]; rw [if_pos hs, ht]; rfl) h
theorem E_getI {x ci k a t : Nat} {fs : List Int} {v : Int} (hg : m_get y pc = some (.getfield x, 3)) (hf : m_fl (m_own y) x = some (ci, k)) (ht : (m_tagL ci)[k]? = some t) (ht2 : t ≠ 2) (hp : pc + 3 = pc') (hH : H[a]? = some (ci, fs)) (hv : fs[k]? = some v) (h : Ev d y pc' ls (mI v :: st) H r H1) : Ev d y pc ls (mR a :: st) H r H1 :=
  E_next hg rfl (by simp) (by simp) (by simp [m_next, hf, hH, hv, ht, m_ld, ht2, hp]) h
theorem E_getR {x ci k a b : Nat} {fs : List Int} (hg : m_get y pc = some (.getfield x, 3)) (hf : m_fl (m_own y) x = some (ci, k)) (ht : (m_tagL ci)[k]? = some 2) (hp : pc + 3 = pc') (hH : H[a]? = some (ci, fs)) (hv : fs[k]? = some (b : Int)) (h : Ev d y pc' ls (mR b :: st) H r H1) : Ev d y pc ls (mR a :: st) H r H1 := by
  refine E_next (pc' := pc') (ls' := ls) (st' := mR b :: st) (H' := H) hg rfl (by simp) (by simp) ?_ h
  have : ¬ ((b : Int) < 0) := by omega
  simp [m_next, hf, hH, hv, ht, m_ld, this, hp]
theorem E_putI {x ci k a t : Nat} {fs : List Int} {v : Int} (hg : m_get y pc = some (.putfield x, 3)) (hf : m_fl (m_own y) x = some (ci, k)) (ht : (m_tagL ci)[k]? = some t) (hst : m_st t (mI v) = some v) (hfin : ((m_C ci).2.1 k).2.2.2 = false) (hp : pc + 3 = pc') (hH : H[a]? = some (ci, fs)) (hk : k < fs.length) (h : Ev d y pc' ls st (m_set H a k v) r H1) : Ev d y pc ls (mI v :: mR a :: st) H r H1 :=
  E_next hg rfl (by simp) (by simp) (by simp [m_next, hf, hH, hk, hfin, ht, hst, hp]) h
theorem E_putR {x ci k a b : Nat} {fs : List Int} (hg : m_get y pc = some (.putfield x, 3)) (hf : m_fl (m_own y) x = some (ci, k)) (ht : (m_tagL ci)[k]? = some 2) (hb : m_in (b : Int) = true) (hfin : ((m_C ci).2.1 k).2.2.2 = false) (hp : pc + 3 = pc') (hH : H[a]? = some (ci, fs)) (hk : k < fs.length) (h : Ev d y pc' ls st (m_set H a k (b : Int)) r H1) : Ev d y pc ls (mR b :: mR a :: st) H r H1 :=
  E_next hg rfl (by simp) (by simp) (by simp [m_next, hf, hH, hk, hfin, ht, m_st, hb, hp]) h
/-- a list's value at an int -/
def ix (fs : List Int) (i : Int) : Int := fs.getD i.toNat 0
def up (fs : List Int) (i v : Int) : List Int := fs.set i.toNat v
theorem ix_get {fs : List Int} {i : Int} (h0 : 0 ≤ i) (h : i < fs.length) : fs[i.toNat]? = some (ix fs i) := by
  unfold ix
  rw [List.getD_eq_getElem?_getD, List.getElem?_eq_getElem (by omega)]
  rfl
theorem E_iaload {a : Nat} {fs : List Int} {i : Int} (hg : m_get y pc = some (.iaload, 1)) (hp : pc + 1 = pc') (hH : H[a]? = some (8, fs)) (h0 : 0 ≤ i) (hi : i < fs.length) (h : Ev d y pc' ls (mI (ix fs i) :: st) H r H1) : Ev d y pc ls (mI i :: mR a :: st) H r H1 :=
  E_next hg rfl (by simp) (by simp) (by simp only [m_next, m_aget, hH, h0, ix_get h0 hi, hp]; rfl) h
theorem E_baload {a : Nat} {fs : List Int} {i : Int} (hg : m_get y pc = some (.baload, 1)) (hp : pc + 1 = pc') (hH : H[a]? = some (9, fs)) (h0 : 0 ≤ i) (hi : i < fs.length) (h : Ev d y pc' ls (mI (ix fs i) :: st) H r H1) : Ev d y pc ls (mI i :: mR a :: st) H r H1 :=
  E_next hg rfl (by simp) (by simp) (by simp only [m_next, m_aget, hH, h0, ix_get h0 hi, hp]; rfl) h
theorem E_aaload {a b : Nat} {fs : List Int} {i : Int} (hg : m_get y pc = some (.aaload, 1)) (hp : pc + 1 = pc') (hH : H[a]? = some (10, fs)) (h0 : 0 ≤ i) (hv : fs[i.toNat]? = some (b : Int)) (h : Ev d y pc' ls (mR b :: st) H r H1) : Ev d y pc ls (mI i :: mR a :: st) H r H1 := by
  refine E_next (pc' := pc') (ls' := ls) (st' := mR b :: st) (H' := H) hg rfl (by simp) (by simp) ?_ h
  have : ¬ ((b : Int) < 0) := by omega
  simp [m_next, m_aget, hH, h0, hv, m_ld, this, hp]
/-- a cell's contents anew -/
def pt (H : mH) (a : Nat) (fs : List Int) : mH := H.modify a (fun c => (c.1, fs))
theorem pt_set {H : mH} {a kd k : Nat} {fs : List Int} {v : Int} (hH : H[a]? = some (kd, fs)) : m_set H a k v = pt H a (fs.set k v) := by
  apply List.ext_getElem?
  intro j
  simp only [m_set, pt, List.getElem?_modify]
  by_cases e : a = j
  · subst e; simp [hH]
  · simp [e]
theorem pt_self {H : mH} {a kd : Nat} {fs gs : List Int} (hH : H[a]? = some (kd, fs)) : (pt H a gs)[a]? = some (kd, gs) := by
  simp [pt, List.getElem?_modify, hH]
theorem pt_ne {H : mH} {a b : Nat} {gs : List Int} (h : a ≠ b) : (pt H a gs)[b]? = H[b]? := by
  simp [pt, List.getElem?_modify, h]
theorem pt_pt (H : mH) (a : Nat) (fs gs : List Int) : pt (pt H a fs) a gs = pt H a gs := by
  apply List.ext_getElem?
  intro j
  simp only [pt, List.getElem?_modify]
  by_cases e : a = j
  · subst e; cases H[a]? <;> simp
  · simp [e]
theorem pt_same {H : mH} {a kd : Nat} {fs : List Int} (hH : H[a]? = some (kd, fs)) : pt H a fs = H := by
  apply List.ext_getElem?
  intro j
  simp only [pt, List.getElem?_modify]
  by_cases e : a = j
  · subst e; simp [hH]
  · simp [e]
theorem pt_len (H : mH) (a : Nat) (fs : List Int) : (pt H a fs).length = H.length := by simp [pt]
theorem pt_sz {H : mH} {a kd : Nat} {fs gs : List Int} (hH : H[a]? = some (kd, fs)) (hl : gs.length = fs.length) : m_sz (pt H a gs) = m_sz H := m_modsz H a _ (fun c hc => by rw [hH] at hc; cases hc; exact hl)
theorem E_putf {x ci k a t : Nat} {fs : List Int} {v : Int} (hg : m_get y pc = some (.putfield x, 3)) (hf : m_fl (m_own y) x = some (ci, k)) (ht : (m_tagL ci)[k]? = some t) (hfin : ((m_C ci).2.1 k).2.2.2 = false) (hp : pc + 3 = pc') (hst : m_st t (mI v) = some v) (hH : H[a]? = some (ci, fs)) (hk : k < fs.length) (h : Ev d y pc' ls st (pt H a (fs.set k v)) r H1) : Ev d y pc ls (mI v :: mR a :: st) H r H1 :=
  E_putI hg hf ht hst hfin hp hH hk (by rw [pt_set hH]; exact h)
theorem E_putr {x ci k a b : Nat} {fs : List Int} (hg : m_get y pc = some (.putfield x, 3)) (hf : m_fl (m_own y) x = some (ci, k)) (ht : (m_tagL ci)[k]? = some 2) (hfin : ((m_C ci).2.1 k).2.2.2 = false) (hp : pc + 3 = pc') (hb : m_in (b : Int) = true) (hH : H[a]? = some (ci, fs)) (hk : k < fs.length) (h : Ev d y pc' ls st (pt H a (fs.set k (b : Int))) r H1) : Ev d y pc ls (mR b :: mR a :: st) H r H1 :=
  E_putR hg hf ht hb hfin hp hH hk (by rw [pt_set hH]; exact h)
theorem E_iastore {a : Nat} {fs : List Int} {i v : Int} (hg : m_get y pc = some (.iastore, 1)) (hp : pc + 1 = pc') (hH : H[a]? = some (8, fs)) (h0 : 0 ≤ i) (hi : i < fs.length) (h : Ev d y pc' ls st (pt H a (up fs i v)) r H1) : Ev d y pc ls (mI v :: mI i :: mR a :: st) H r H1 := by
  refine E_next (pc' := pc') (ls' := ls) (st' := st) (H' := m_set H a i.toNat v) hg rfl (by simp) (by simp) ?_ (by rw [pt_set hH]; exact h)
  have : i.toNat < fs.length := by omega
  simp [m_next, m_aput, hH, h0, this, m_st, hp]
theorem E_bastore {a : Nat} {fs : List Int} {i v : Int} (hg : m_get y pc = some (.bastore, 1)) (hp : pc + 1 = pc') (hv : v = 0 ∨ v = 1) (hH : H[a]? = some (9, fs)) (h0 : 0 ≤ i) (hi : i < fs.length) (h : Ev d y pc' ls st (pt H a (up fs i v)) r H1) : Ev d y pc ls (mI v :: mI i :: mR a :: st) H r H1 := by
  refine E_next (pc' := pc') (ls' := ls) (st' := st) (H' := m_set H a i.toNat v) hg rfl (by simp) (by simp) ?_ (by rw [pt_set hH]; exact h)
  have : i.toNat < fs.length := by omega
  simp [m_next, m_aput, hH, h0, this, m_st, hp, hv]
theorem E_alen {a kd : Nat} {fs : List Int} (hg : m_get y pc = some (.arraylength, 1)) (hp : pc + 1 = pc') (hH : H[a]? = some (kd, fs)) (hk : kd = 8 ∨ kd = 9 ∨ kd = 10) (hi : m_in (fs.length : Int) = true) (h : Ev d y pc' ls (mI (fs.length : Int) :: st) H r H1) : Ev d y pc ls (mR a :: st) H r H1 :=
  E_next hg rfl (by simp) (by simp) (by simp [m_next, hH, hk, hi, hp]) h
theorem E_ret (hg : m_get y pc = some (.return_, 1)) (hr : m_rt y = none) (e1 : r = none) (e2 : H1 = H) : Ev d y pc ls [] H r H1 := by
  subst e1; subst e2
  exact ⟨1, by simp [ev, hg, hr]⟩
theorem E_iret {v : Int} (hg : m_get y pc = some (.ireturn, 1)) (hr : m_rok y v = true) (e1 : r = mI v) (e2 : H1 = H) : Ev d y pc ls [mI v] H r H1 := by
  subst e1; subst e2
  exact ⟨1, by simp [ev, hg, hr]⟩
theorem E_call {i : Instr} {j x k z d' : Nat} {av : List mV} {r1 : mV} {H2 : mH} (hg : m_get y pc = some (i, 3)) (hi : m_inv i = some (j, x)) (hm : m_ml (m_own y) x = some (k, z)) (hfit : m_fit j k = true) (hk : ¬ 5 ≤ k) (hpz : m_prim z = false) (hn : m_na z = av.length) (hp : pc + 3 = pc') (h8 : st.length ≤ 8) (hd : d' ≤ d) (hrc : m_rcv k z av H = true) (hC : Call d' z av H r1 H2) (h : Ev (d + 1) y pc' ls (m_push r1 st) H2 r H1) : Ev (d + 1) y pc ls (av.reverse ++ st) H r H1 := by
  obtain ⟨N1, h1⟩ := hC
  obtain ⟨N2, h2⟩ := h
  refine ⟨max N1 N2 + 1, ?_⟩
  have h1' := ev_mono _ _ _ _ _ _ _ _ h1 (max N1 N2) d (by omega) hd
  have h2' := ev_mono _ _ _ _ _ _ _ _ h2 (max N1 N2) (d + 1) (by omega) (by omega)
  have e1 : (av.reverse ++ st).take (m_na z) = av.reverse := by rw [hn, ← List.length_reverse, List.take_left]
  have e2 : (av.reverse ++ st).drop (m_na z) = st := by rw [hn, ← List.length_reverse, List.drop_left]
  have e3 : m_na z ≤ (av.reverse ++ st).length := by simp; omega
  have n1 : i ≠ .return_ := by intro e; rw [e] at hi; cases hi
  have n2 : i ≠ .ireturn := by intro e; rw [e] at hi; cases hi
  simp only [ev, hg]
  · simp only [hi, hm, hfit, e1, e2, e3, List.reverse_reverse, hrc, hpz, h1', h8]
    rw [if_pos (by simp), if_neg hk, if_pos (by simp), if_neg (by simp)]
    subst hp
    exact h2'
theorem E_prim {i : Instr} {j x k z : Nat} {av : List mV} {r1 : mV} (hg : m_get y pc = some (i, 3)) (hi : m_inv i = some (j, x)) (hm : m_ml (m_own y) x = some (k, z)) (hfit : m_fit j k = true) (hk : ¬ 5 ≤ k) (hpz : m_prim z = true) (hn : m_na z = av.length) (hp : pc + 3 = pc') (h8 : st.length ≤ 8) (hrc : m_rcv k z av H = true) (hC : m_pv z av = some r1) (h : Ev (d + 1) y pc' ls (r1 :: st) H r H1) : Ev (d + 1) y pc ls (av.reverse ++ st) H r H1 := by
  obtain ⟨N2, h2⟩ := h
  refine ⟨N2 + 1, ?_⟩
  have e1 : (av.reverse ++ st).take (m_na z) = av.reverse := by rw [hn, ← List.length_reverse, List.take_left]
  have e2 : (av.reverse ++ st).drop (m_na z) = st := by rw [hn, ← List.length_reverse, List.drop_left]
  have e3 : m_na z ≤ (av.reverse ++ st).length := by simp; omega
  have n1 : i ≠ .return_ := by intro e; rw [e] at hi; cases hi
  have n2 : i ≠ .ireturn := by intro e; rw [e] at hi; cases hi
  simp only [ev, hg]
  · simp only [hi, hm, hfit, e1, e2, e3, List.reverse_reverse, hrc, hpz, hC, h8]
    rw [if_pos (by simp), if_neg hk, if_pos (by simp), if_pos (by simp)]
    subst hp
    exact h2
theorem E_blt {i : Instr} {j x k z : Nat} {st' : List mV} {H2 : mH} (hg : m_get y pc = some (i, 3)) (hi : m_inv i = some (j, x)) (hm : m_ml (m_own y) x = some (k, z)) (hfit : m_fit j k = true) (hk : 5 ≤ k) (hp : pc + 3 = pc') (hb : m_blt k st H = some (st', H2)) (h8 : st'.length ≤ 8) (h : Ev (d + 1) y pc' ls st' H2 r H1) : Ev (d + 1) y pc ls st H r H1 := by
  obtain ⟨N2, h2⟩ := h
  refine ⟨N2 + 1, ?_⟩
  have n1 : i ≠ .return_ := by intro e; rw [e] at hi; cases hi
  have n2 : i ≠ .ireturn := by intro e; rw [e] at hi; cases hi
  simp only [ev, hg]
  · simp only [hi, hm, hfit, hb, h8]
    rw [if_pos (by simp), if_pos hk, if_pos (by simp)]
    subst hp
    exact h2
end EV
end
