section
/-- a private method of a class that the tables say can be made, by its rows of tables_1 -/
def lw_okq (q : MethodName × Nat) : Prop := (q.1.cls ≠ "java/lang/invoke/MethodHandle" ∧ q.1.cls ≠ "java/lang/invoke/VarHandle") ∧ Cond.instantiable q.1.cls q.2 ∈ tables_1 ∧ Cond.privateMethod q.1 ∈ tables_1 ∧ Cond.instanceMethod q.1 ∈ tables_1
theorem lw_p0 : lw_okq (⟨"ChipBurner$FormReader", "takePlain", "()V"⟩, 9) := ⟨⟨by decide +kernel, by decide +kernel⟩, List.mem_of_getElem? (i := 56) (by decide +kernel), List.mem_of_getElem? (i := 256) (by decide +kernel), List.mem_of_getElem? (i := 257) (by decide +kernel)⟩
theorem lw_p1 : lw_okq (⟨"ChipBurner$FormReader", "stage", "(II)V"⟩, 9) := ⟨⟨by decide +kernel, by decide +kernel⟩, List.mem_of_getElem? (i := 56) (by decide +kernel), List.mem_of_getElem? (i := 269) (by decide +kernel), List.mem_of_getElem? (i := 270) (by decide +kernel)⟩
theorem lw_p2 : lw_okq (⟨"ChipBurner$FormReader", "takeLines", "(I)V"⟩, 9) := ⟨⟨by decide +kernel, by decide +kernel⟩, List.mem_of_getElem? (i := 56) (by decide +kernel), List.mem_of_getElem? (i := 273) (by decide +kernel), List.mem_of_getElem? (i := 274) (by decide +kernel)⟩
theorem lw_p3 : lw_okq (⟨"ChipBurner$FormReader", "stopOf", "(II)I"⟩, 9) := ⟨⟨by decide +kernel, by decide +kernel⟩, List.mem_of_getElem? (i := 56) (by decide +kernel), List.mem_of_getElem? (i := 281) (by decide +kernel), List.mem_of_getElem? (i := 282) (by decide +kernel)⟩
theorem lw_p4 : lw_okq (⟨"ChipBurner$FormReader", "takeLine", "(III)V"⟩, 9) := ⟨⟨by decide +kernel, by decide +kernel⟩, List.mem_of_getElem? (i := 56) (by decide +kernel), List.mem_of_getElem? (i := 285) (by decide +kernel), List.mem_of_getElem? (i := 286) (by decide +kernel)⟩
theorem lw_p5 : lw_okq (⟨"ChipBurner$FormReader", "isColonLine", "(II)Z"⟩, 9) := ⟨⟨by decide +kernel, by decide +kernel⟩, List.mem_of_getElem? (i := 56) (by decide +kernel), List.mem_of_getElem? (i := 289) (by decide +kernel), List.mem_of_getElem? (i := 290) (by decide +kernel)⟩
theorem lw_p6 : lw_okq (⟨"ChipBurner$FormReader", "areDigits", "(II)Z"⟩, 9) := ⟨⟨by decide +kernel, by decide +kernel⟩, List.mem_of_getElem? (i := 56) (by decide +kernel), List.mem_of_getElem? (i := 293) (by decide +kernel), List.mem_of_getElem? (i := 294) (by decide +kernel)⟩
theorem lw_p7 : lw_okq (⟨"ChipBurner$FormReader", "isSLine", "(II)Z"⟩, 9) := ⟨⟨by decide +kernel, by decide +kernel⟩, List.mem_of_getElem? (i := 56) (by decide +kernel), List.mem_of_getElem? (i := 307) (by decide +kernel), List.mem_of_getElem? (i := 308) (by decide +kernel)⟩
theorem lw_p8 : lw_okq (⟨"ChipBurner$FormReader", "sumOf", "(II)I"⟩, 9) := ⟨⟨by decide +kernel, by decide +kernel⟩, List.mem_of_getElem? (i := 56) (by decide +kernel), List.mem_of_getElem? (i := 311) (by decide +kernel), List.mem_of_getElem? (i := 312) (by decide +kernel)⟩
theorem lw_p9 : lw_okq (⟨"ChipBurner$FormReader", "takeData", "(I)V"⟩, 9) := ⟨⟨by decide +kernel, by decide +kernel⟩, List.mem_of_getElem? (i := 56) (by decide +kernel), List.mem_of_getElem? (i := 315) (by decide +kernel), List.mem_of_getElem? (i := 316) (by decide +kernel)⟩
theorem lw_p10 : lw_okq (⟨"ChipBurner$FormWriter", "startLine", "(IIII)V"⟩, 2) := ⟨⟨by decide +kernel, by decide +kernel⟩, List.mem_of_getElem? (i := 90) (by decide +kernel), List.mem_of_getElem? (i := 341) (by decide +kernel), List.mem_of_getElem? (i := 342) (by decide +kernel)⟩
theorem lw_p11 : lw_okq (⟨"ChipBurner$FormWriter", "addByte", "(I)V"⟩, 2) := ⟨⟨by decide +kernel, by decide +kernel⟩, List.mem_of_getElem? (i := 90) (by decide +kernel), List.mem_of_getElem? (i := 346) (by decide +kernel), List.mem_of_getElem? (i := 347) (by decide +kernel)⟩
theorem lw_p12 : lw_okq (⟨"ChipBurner$FormWriter", "addAddress", "(I)V"⟩, 2) := ⟨⟨by decide +kernel, by decide +kernel⟩, List.mem_of_getElem? (i := 90) (by decide +kernel), List.mem_of_getElem? (i := 354) (by decide +kernel), List.mem_of_getElem? (i := 355) (by decide +kernel)⟩
theorem lw_p13 : lw_okq (⟨"ChipBurner$FormWriter", "stopLine", "(I)V"⟩, 2) := ⟨⟨by decide +kernel, by decide +kernel⟩, List.mem_of_getElem? (i := 90) (by decide +kernel), List.mem_of_getElem? (i := 358) (by decide +kernel), List.mem_of_getElem? (i := 359) (by decide +kernel)⟩
theorem lw_p14 : lw_okq (⟨"ChipBurner", "chipAt", "(I)LChipBurner$Chip;"⟩, 11) := ⟨⟨by decide +kernel, by decide +kernel⟩, List.mem_of_getElem? (i := 19) (by decide +kernel), List.mem_of_getElem? (i := 458) (by decide +kernel), List.mem_of_getElem? (i := 459) (by decide +kernel)⟩
theorem lw_p15 : lw_okq (⟨"ChipBurner$Chip", "isAddress", "(I)Z"⟩, 17) := ⟨⟨by decide +kernel, by decide +kernel⟩, List.mem_of_getElem? (i := 381) (by decide +kernel), List.mem_of_getElem? (i := 466) (by decide +kernel), List.mem_of_getElem? (i := 467) (by decide +kernel)⟩
def lw_privs_1 : List (MethodName × Nat) := [(⟨"ChipBurner$FormReader", "takePlain", "()V"⟩, 9), (⟨"ChipBurner$FormReader", "stage", "(II)V"⟩, 9), (⟨"ChipBurner$FormReader", "takeLines", "(I)V"⟩, 9), (⟨"ChipBurner$FormReader", "stopOf", "(II)I"⟩, 9), (⟨"ChipBurner$FormReader", "takeLine", "(III)V"⟩, 9), (⟨"ChipBurner$FormReader", "isColonLine", "(II)Z"⟩, 9), (⟨"ChipBurner$FormReader", "areDigits", "(II)Z"⟩, 9), (⟨"ChipBurner$FormReader", "isSLine", "(II)Z"⟩, 9), (⟨"ChipBurner$FormReader", "sumOf", "(II)I"⟩, 9), (⟨"ChipBurner$FormReader", "takeData", "(I)V"⟩, 9), (⟨"ChipBurner$FormWriter", "startLine", "(IIII)V"⟩, 2), (⟨"ChipBurner$FormWriter", "addByte", "(I)V"⟩, 2), (⟨"ChipBurner$FormWriter", "addAddress", "(I)V"⟩, 2), (⟨"ChipBurner$FormWriter", "stopLine", "(I)V"⟩, 2), (⟨"ChipBurner", "chipAt", "(I)LChipBurner$Chip;"⟩, 11), (⟨"ChipBurner$Chip", "isAddress", "(I)Z"⟩, 17)]
theorem lw_r1 : ∀ q ∈ lw_privs_1, lw_okq q := List.forall_mem_cons.mpr ⟨lw_p0, List.forall_mem_cons.mpr ⟨lw_p1, List.forall_mem_cons.mpr ⟨lw_p2, List.forall_mem_cons.mpr ⟨lw_p3, List.forall_mem_cons.mpr ⟨lw_p4, List.forall_mem_cons.mpr ⟨lw_p5, List.forall_mem_cons.mpr ⟨lw_p6, List.forall_mem_cons.mpr ⟨lw_p7, List.forall_mem_cons.mpr ⟨lw_p8, List.forall_mem_cons.mpr ⟨lw_p9, List.forall_mem_cons.mpr ⟨lw_p10, List.forall_mem_cons.mpr ⟨lw_p11, List.forall_mem_cons.mpr ⟨lw_p12, List.forall_mem_cons.mpr ⟨lw_p13, List.forall_mem_cons.mpr ⟨lw_p14, List.forall_mem_cons.mpr ⟨lw_p15, fun _ h => absurd h List.not_mem_nil⟩⟩⟩⟩⟩⟩⟩⟩⟩⟩⟩⟩⟩⟩⟩⟩
theorem lw_p16 : lw_okq (⟨"ChipBurner$Chip", "blockCount", "()I"⟩, 17) := ⟨⟨by decide +kernel, by decide +kernel⟩, List.mem_of_getElem? (i := 381) (by decide +kernel), List.mem_of_getElem? (i := 478) (by decide +kernel), List.mem_of_getElem? (i := 479) (by decide +kernel)⟩
theorem lw_p17 : lw_okq (⟨"ChipBurner$RecipeReader", "nextToken", "()V"⟩, 8) := ⟨⟨by decide +kernel, by decide +kernel⟩, List.mem_of_getElem? (i := 103) (by decide +kernel), List.mem_of_getElem? (i := 538) (by decide +kernel), List.mem_of_getElem? (i := 539) (by decide +kernel)⟩
theorem lw_p18 : lw_okq (⟨"ChipBurner$RecipeReader", "behindBlanks", "(I)I"⟩, 8) := ⟨⟨by decide +kernel, by decide +kernel⟩, List.mem_of_getElem? (i := 103) (by decide +kernel), List.mem_of_getElem? (i := 542) (by decide +kernel), List.mem_of_getElem? (i := 543) (by decide +kernel)⟩
theorem lw_p19 : lw_okq (⟨"ChipBurner$RecipeReader", "behindSame", "(II)I"⟩, 8) := ⟨⟨by decide +kernel, by decide +kernel⟩, List.mem_of_getElem? (i := 103) (by decide +kernel), List.mem_of_getElem? (i := 551) (by decide +kernel), List.mem_of_getElem? (i := 552) (by decide +kernel)⟩
theorem lw_p20 : lw_okq (⟨"ChipBurner$RecipeReader", "isSign", "(I)Z"⟩, 8) := ⟨⟨by decide +kernel, by decide +kernel⟩, List.mem_of_getElem? (i := 103) (by decide +kernel), List.mem_of_getElem? (i := 555) (by decide +kernel), List.mem_of_getElem? (i := 556) (by decide +kernel)⟩
theorem lw_p21 : lw_okq (⟨"ChipBurner$RecipeReader", "takeClosing", "(LChipBurner$Recipe;)Z"⟩, 8) := ⟨⟨by decide +kernel, by decide +kernel⟩, List.mem_of_getElem? (i := 103) (by decide +kernel), List.mem_of_getElem? (i := 559) (by decide +kernel), List.mem_of_getElem? (i := 560) (by decide +kernel)⟩
theorem lw_p22 : lw_okq (⟨"ChipBurner$RecipeReader", "refuse", "(I)Z"⟩, 8) := ⟨⟨by decide +kernel, by decide +kernel⟩, List.mem_of_getElem? (i := 103) (by decide +kernel), List.mem_of_getElem? (i := 564) (by decide +kernel), List.mem_of_getElem? (i := 565) (by decide +kernel)⟩
theorem lw_p23 : lw_okq (⟨"ChipBurner$Recipe", "isStep", "(I)Z"⟩, 8) := ⟨⟨by decide +kernel, by decide +kernel⟩, List.mem_of_getElem? (i := 138) (by decide +kernel), List.mem_of_getElem? (i := 572) (by decide +kernel), List.mem_of_getElem? (i := 573) (by decide +kernel)⟩
theorem lw_p24 : lw_okq (⟨"ChipBurner$RecipeReader", "isWord", "(Ljava/lang/String;)Z"⟩, 8) := ⟨⟨by decide +kernel, by decide +kernel⟩, List.mem_of_getElem? (i := 103) (by decide +kernel), List.mem_of_getElem? (i := 577) (by decide +kernel), List.mem_of_getElem? (i := 578) (by decide +kernel)⟩
theorem lw_p25 : lw_okq (⟨"ChipBurner$RecipeReader", "takeSign", "(I)Z"⟩, 8) := ⟨⟨by decide +kernel, by decide +kernel⟩, List.mem_of_getElem? (i := 103) (by decide +kernel), List.mem_of_getElem? (i := 633) (by decide +kernel), List.mem_of_getElem? (i := 634) (by decide +kernel)⟩
theorem lw_p26 : lw_okq (⟨"ChipBurner$RecipeReader", "takeStep", "(LChipBurner$Recipe;)Z"⟩, 8) := ⟨⟨by decide +kernel, by decide +kernel⟩, List.mem_of_getElem? (i := 103) (by decide +kernel), List.mem_of_getElem? (i := 637) (by decide +kernel), List.mem_of_getElem? (i := 638) (by decide +kernel)⟩
theorem lw_p27 : lw_okq (⟨"ChipBurner$RecipeReader", "stepKind", "()I"⟩, 8) := ⟨⟨by decide +kernel, by decide +kernel⟩, List.mem_of_getElem? (i := 103) (by decide +kernel), List.mem_of_getElem? (i := 641) (by decide +kernel), List.mem_of_getElem? (i := 642) (by decide +kernel)⟩
theorem lw_p28 : lw_okq (⟨"ChipBurner$RecipeReader", "takeNumber", "(LChipBurner$Recipe;III)Z"⟩, 8) := ⟨⟨by decide +kernel, by decide +kernel⟩, List.mem_of_getElem? (i := 103) (by decide +kernel), List.mem_of_getElem? (i := 659) (by decide +kernel), List.mem_of_getElem? (i := 660) (by decide +kernel)⟩
theorem lw_p29 : lw_okq (⟨"ChipBurner$RecipeReader", "tokenNumber", "()I"⟩, 8) := ⟨⟨by decide +kernel, by decide +kernel⟩, List.mem_of_getElem? (i := 103) (by decide +kernel), List.mem_of_getElem? (i := 663) (by decide +kernel), List.mem_of_getElem? (i := 664) (by decide +kernel)⟩
theorem lw_p30 : lw_okq (⟨"ChipBurner$RecipeReader", "takeOpening", "(IZ)Z"⟩, 8) := ⟨⟨by decide +kernel, by decide +kernel⟩, List.mem_of_getElem? (i := 103) (by decide +kernel), List.mem_of_getElem? (i := 671) (by decide +kernel), List.mem_of_getElem? (i := 672) (by decide +kernel)⟩
theorem lw_p31 : lw_okq (⟨"ChipBurner$Recipe", "volts", "(IIII)I"⟩, 8) := ⟨⟨by decide +kernel, by decide +kernel⟩, List.mem_of_getElem? (i := 138) (by decide +kernel), List.mem_of_getElem? (i := 679) (by decide +kernel), List.mem_of_getElem? (i := 680) (by decide +kernel)⟩
def lw_privs_2 : List (MethodName × Nat) := [(⟨"ChipBurner$Chip", "blockCount", "()I"⟩, 17), (⟨"ChipBurner$RecipeReader", "nextToken", "()V"⟩, 8), (⟨"ChipBurner$RecipeReader", "behindBlanks", "(I)I"⟩, 8), (⟨"ChipBurner$RecipeReader", "behindSame", "(II)I"⟩, 8), (⟨"ChipBurner$RecipeReader", "isSign", "(I)Z"⟩, 8), (⟨"ChipBurner$RecipeReader", "takeClosing", "(LChipBurner$Recipe;)Z"⟩, 8), (⟨"ChipBurner$RecipeReader", "refuse", "(I)Z"⟩, 8), (⟨"ChipBurner$Recipe", "isStep", "(I)Z"⟩, 8), (⟨"ChipBurner$RecipeReader", "isWord", "(Ljava/lang/String;)Z"⟩, 8), (⟨"ChipBurner$RecipeReader", "takeSign", "(I)Z"⟩, 8), (⟨"ChipBurner$RecipeReader", "takeStep", "(LChipBurner$Recipe;)Z"⟩, 8), (⟨"ChipBurner$RecipeReader", "stepKind", "()I"⟩, 8), (⟨"ChipBurner$RecipeReader", "takeNumber", "(LChipBurner$Recipe;III)Z"⟩, 8), (⟨"ChipBurner$RecipeReader", "tokenNumber", "()I"⟩, 8), (⟨"ChipBurner$RecipeReader", "takeOpening", "(IZ)Z"⟩, 8), (⟨"ChipBurner$Recipe", "volts", "(IIII)I"⟩, 8)]
theorem lw_r2 : ∀ q ∈ lw_privs_2, lw_okq q := List.forall_mem_cons.mpr ⟨lw_p16, List.forall_mem_cons.mpr ⟨lw_p17, List.forall_mem_cons.mpr ⟨lw_p18, List.forall_mem_cons.mpr ⟨lw_p19, List.forall_mem_cons.mpr ⟨lw_p20, List.forall_mem_cons.mpr ⟨lw_p21, List.forall_mem_cons.mpr ⟨lw_p22, List.forall_mem_cons.mpr ⟨lw_p23, List.forall_mem_cons.mpr ⟨lw_p24, List.forall_mem_cons.mpr ⟨lw_p25, List.forall_mem_cons.mpr ⟨lw_p26, List.forall_mem_cons.mpr ⟨lw_p27, List.forall_mem_cons.mpr ⟨lw_p28, List.forall_mem_cons.mpr ⟨lw_p29, List.forall_mem_cons.mpr ⟨lw_p30, List.forall_mem_cons.mpr ⟨lw_p31, fun _ h => absurd h List.not_mem_nil⟩⟩⟩⟩⟩⟩⟩⟩⟩⟩⟩⟩⟩⟩⟩⟩
theorem lw_p32 : lw_okq (⟨"ChipBurner$Recipe", "voltsOfTry", "(III)I"⟩, 8) := ⟨⟨by decide +kernel, by decide +kernel⟩, List.mem_of_getElem? (i := 138) (by decide +kernel), List.mem_of_getElem? (i := 702) (by decide +kernel), List.mem_of_getElem? (i := 703) (by decide +kernel)⟩
theorem lw_p33 : lw_okq (⟨"ChipBurner$Recipe", "most", "(ZIII)J"⟩, 8) := ⟨⟨by decide +kernel, by decide +kernel⟩, List.mem_of_getElem? (i := 138) (by decide +kernel), List.mem_of_getElem? (i := 707) (by decide +kernel), List.mem_of_getElem? (i := 708) (by decide +kernel)⟩
theorem lw_p34 : lw_okq (⟨"ChipBurner", "recipeAt", "(I)LChipBurner$Recipe;"⟩, 11) := ⟨⟨by decide +kernel, by decide +kernel⟩, List.mem_of_getElem? (i := 19) (by decide +kernel), List.mem_of_getElem? (i := 720) (by decide +kernel), List.mem_of_getElem? (i := 721) (by decide +kernel)⟩
theorem lw_p35 : lw_okq (⟨"ChipBurner", "hindrance", "(LChipBurner$Chip;LChipBurner$Recipe;III)I"⟩, 11) := ⟨⟨by decide +kernel, by decide +kernel⟩, List.mem_of_getElem? (i := 19) (by decide +kernel), List.mem_of_getElem? (i := 731) (by decide +kernel), List.mem_of_getElem? (i := 732) (by decide +kernel)⟩
theorem lw_p36 : lw_okq (⟨"ChipBurner$Worker", "workSteps", "(III)V"⟩, 7) := ⟨⟨by decide +kernel, by decide +kernel⟩, List.mem_of_getElem? (i := 756) (by decide +kernel), List.mem_of_getElem? (i := 793) (by decide +kernel), List.mem_of_getElem? (i := 794) (by decide +kernel)⟩
theorem lw_p37 : lw_okq (⟨"ChipBurner$Worker", "workStep", "(II)V"⟩, 7) := ⟨⟨by decide +kernel, by decide +kernel⟩, List.mem_of_getElem? (i := 756) (by decide +kernel), List.mem_of_getElem? (i := 797) (by decide +kernel), List.mem_of_getElem? (i := 798) (by decide +kernel)⟩
theorem lw_p38 : lw_okq (⟨"ChipBurner$Worker", "givePulses", "(I)V"⟩, 7) := ⟨⟨by decide +kernel, by decide +kernel⟩, List.mem_of_getElem? (i := 756) (by decide +kernel), List.mem_of_getElem? (i := 803) (by decide +kernel), List.mem_of_getElem? (i := 804) (by decide +kernel)⟩
theorem lw_p39 : lw_okq (⟨"ChipBurner$Worker", "workBranch", "(II)V"⟩, 7) := ⟨⟨by decide +kernel, by decide +kernel⟩, List.mem_of_getElem? (i := 756) (by decide +kernel), List.mem_of_getElem? (i := 813) (by decide +kernel), List.mem_of_getElem? (i := 814) (by decide +kernel)⟩
theorem lw_p40 : lw_okq (⟨"ChipBurnerModel", "four", "(I)V"⟩, 56) := ⟨⟨by decide +kernel, by decide +kernel⟩, List.mem_of_getElem? (i := 831) (by decide +kernel), List.mem_of_getElem? (i := 1011) (by decide +kernel), List.mem_of_getElem? (i := 1012) (by decide +kernel)⟩
theorem lw_p41 : lw_okq (⟨"ChipBurnerModel", "readPlain", "()I"⟩, 56) := ⟨⟨by decide +kernel, by decide +kernel⟩, List.mem_of_getElem? (i := 831) (by decide +kernel), List.mem_of_getElem? (i := 1038) (by decide +kernel), List.mem_of_getElem? (i := 1039) (by decide +kernel)⟩
theorem lw_p42 : lw_okq (⟨"ChipBurnerModel", "put", "(II)V"⟩, 56) := ⟨⟨by decide +kernel, by decide +kernel⟩, List.mem_of_getElem? (i := 831) (by decide +kernel), List.mem_of_getElem? (i := 1042) (by decide +kernel), List.mem_of_getElem? (i := 1043) (by decide +kernel)⟩
theorem lw_p43 : lw_okq (⟨"ChipBurnerModel", "readLines", "(I)I"⟩, 56) := ⟨⟨by decide +kernel, by decide +kernel⟩, List.mem_of_getElem? (i := 831) (by decide +kernel), List.mem_of_getElem? (i := 1046) (by decide +kernel), List.mem_of_getElem? (i := 1047) (by decide +kernel)⟩
theorem lw_p44 : lw_okq (⟨"ChipBurnerModel", "lineOne", "(II)I"⟩, 56) := ⟨⟨by decide +kernel, by decide +kernel⟩, List.mem_of_getElem? (i := 831) (by decide +kernel), List.mem_of_getElem? (i := 1050) (by decide +kernel), List.mem_of_getElem? (i := 1051) (by decide +kernel)⟩
theorem lw_p45 : lw_okq (⟨"ChipBurnerModel", "bytes", "(II)I"⟩, 56) := ⟨⟨by decide +kernel, by decide +kernel⟩, List.mem_of_getElem? (i := 831) (by decide +kernel), List.mem_of_getElem? (i := 1054) (by decide +kernel), List.mem_of_getElem? (i := 1055) (by decide +kernel)⟩
theorem lw_p46 : lw_okq (⟨"ChipBurnerModel", "sumOf", "(I)I"⟩, 56) := ⟨⟨by decide +kernel, by decide +kernel⟩, List.mem_of_getElem? (i := 831) (by decide +kernel), List.mem_of_getElem? (i := 1061) (by decide +kernel), List.mem_of_getElem? (i := 1062) (by decide +kernel)⟩
theorem lw_p47 : lw_okq (⟨"ChipBurnerModel", "data", "(III)I"⟩, 56) := ⟨⟨by decide +kernel, by decide +kernel⟩, List.mem_of_getElem? (i := 831) (by decide +kernel), List.mem_of_getElem? (i := 1065) (by decide +kernel), List.mem_of_getElem? (i := 1066) (by decide +kernel)⟩
def lw_privs_3 : List (MethodName × Nat) := [(⟨"ChipBurner$Recipe", "voltsOfTry", "(III)I"⟩, 8), (⟨"ChipBurner$Recipe", "most", "(ZIII)J"⟩, 8), (⟨"ChipBurner", "recipeAt", "(I)LChipBurner$Recipe;"⟩, 11), (⟨"ChipBurner", "hindrance", "(LChipBurner$Chip;LChipBurner$Recipe;III)I"⟩, 11), (⟨"ChipBurner$Worker", "workSteps", "(III)V"⟩, 7), (⟨"ChipBurner$Worker", "workStep", "(II)V"⟩, 7), (⟨"ChipBurner$Worker", "givePulses", "(I)V"⟩, 7), (⟨"ChipBurner$Worker", "workBranch", "(II)V"⟩, 7), (⟨"ChipBurnerModel", "four", "(I)V"⟩, 56), (⟨"ChipBurnerModel", "readPlain", "()I"⟩, 56), (⟨"ChipBurnerModel", "put", "(II)V"⟩, 56), (⟨"ChipBurnerModel", "readLines", "(I)I"⟩, 56), (⟨"ChipBurnerModel", "lineOne", "(II)I"⟩, 56), (⟨"ChipBurnerModel", "bytes", "(II)I"⟩, 56), (⟨"ChipBurnerModel", "sumOf", "(I)I"⟩, 56), (⟨"ChipBurnerModel", "data", "(III)I"⟩, 56)]
theorem lw_r3 : ∀ q ∈ lw_privs_3, lw_okq q := List.forall_mem_cons.mpr ⟨lw_p32, List.forall_mem_cons.mpr ⟨lw_p33, List.forall_mem_cons.mpr ⟨lw_p34, List.forall_mem_cons.mpr ⟨lw_p35, List.forall_mem_cons.mpr ⟨lw_p36, List.forall_mem_cons.mpr ⟨lw_p37, List.forall_mem_cons.mpr ⟨lw_p38, List.forall_mem_cons.mpr ⟨lw_p39, List.forall_mem_cons.mpr ⟨lw_p40, List.forall_mem_cons.mpr ⟨lw_p41, List.forall_mem_cons.mpr ⟨lw_p42, List.forall_mem_cons.mpr ⟨lw_p43, List.forall_mem_cons.mpr ⟨lw_p44, List.forall_mem_cons.mpr ⟨lw_p45, List.forall_mem_cons.mpr ⟨lw_p46, List.forall_mem_cons.mpr ⟨lw_p47, fun _ h => absurd h List.not_mem_nil⟩⟩⟩⟩⟩⟩⟩⟩⟩⟩⟩⟩⟩⟩⟩⟩
theorem lw_p48 : lw_okq (⟨"ChipBurnerModel", "lineTwo", "(II)I"⟩, 56) := ⟨⟨by decide +kernel, by decide +kernel⟩, List.mem_of_getElem? (i := 831) (by decide +kernel), List.mem_of_getElem? (i := 1069) (by decide +kernel), List.mem_of_getElem? (i := 1070) (by decide +kernel)⟩
theorem lw_p49 : lw_okq (⟨"ChipBurnerModel", "writeLine", "(IIII)V"⟩, 56) := ⟨⟨by decide +kernel, by decide +kernel⟩, List.mem_of_getElem? (i := 831) (by decide +kernel), List.mem_of_getElem? (i := 1081) (by decide +kernel), List.mem_of_getElem? (i := 1082) (by decide +kernel)⟩
theorem lw_p50 : lw_okq (⟨"ChipBurnerModel", "writeSign", "(I)V"⟩, 56) := ⟨⟨by decide +kernel, by decide +kernel⟩, List.mem_of_getElem? (i := 831) (by decide +kernel), List.mem_of_getElem? (i := 1085) (by decide +kernel), List.mem_of_getElem? (i := 1086) (by decide +kernel)⟩
theorem lw_p51 : lw_okq (⟨"ChipBurnerModel", "writeByte", "(I)V"⟩, 56) := ⟨⟨by decide +kernel, by decide +kernel⟩, List.mem_of_getElem? (i := 831) (by decide +kernel), List.mem_of_getElem? (i := 1089) (by decide +kernel), List.mem_of_getElem? (i := 1090) (by decide +kernel)⟩
theorem lw_p52 : lw_okq (⟨"ChipBurnerModel", "isAddress", "(II)Z"⟩, 56) := ⟨⟨by decide +kernel, by decide +kernel⟩, List.mem_of_getElem? (i := 831) (by decide +kernel), List.mem_of_getElem? (i := 1101) (by decide +kernel), List.mem_of_getElem? (i := 1102) (by decide +kernel)⟩
theorem lw_p53 : lw_okq (⟨"ChipBurnerModel", "isChip", "(I)Z"⟩, 56) := ⟨⟨by decide +kernel, by decide +kernel⟩, List.mem_of_getElem? (i := 831) (by decide +kernel), List.mem_of_getElem? (i := 1105) (by decide +kernel), List.mem_of_getElem? (i := 1106) (by decide +kernel)⟩
theorem lw_p54 : lw_okq (⟨"ChipBurnerModel", "logicals", "(I)I"⟩, 56) := ⟨⟨by decide +kernel, by decide +kernel⟩, List.mem_of_getElem? (i := 831) (by decide +kernel), List.mem_of_getElem? (i := 1125) (by decide +kernel), List.mem_of_getElem? (i := 1126) (by decide +kernel)⟩
theorem lw_p55 : lw_okq (⟨"ChipBurnerModel", "addressOf", "(II)I"⟩, 56) := ⟨⟨by decide +kernel, by decide +kernel⟩, List.mem_of_getElem? (i := 831) (by decide +kernel), List.mem_of_getElem? (i := 1129) (by decide +kernel), List.mem_of_getElem? (i := 1130) (by decide +kernel)⟩
theorem lw_p56 : lw_okq (⟨"ChipBurnerModel", "lacking", "(I)I"⟩, 56) := ⟨⟨by decide +kernel, by decide +kernel⟩, List.mem_of_getElem? (i := 831) (by decide +kernel), List.mem_of_getElem? (i := 1133) (by decide +kernel), List.mem_of_getElem? (i := 1134) (by decide +kernel)⟩
theorem lw_p57 : lw_okq (⟨"ChipBurnerModel", "readRecipe", "()I"⟩, 56) := ⟨⟨by decide +kernel, by decide +kernel⟩, List.mem_of_getElem? (i := 831) (by decide +kernel), List.mem_of_getElem? (i := 1143) (by decide +kernel), List.mem_of_getElem? (i := 1144) (by decide +kernel)⟩
theorem lw_p58 : lw_okq (⟨"ChipBurnerModel", "nextToken", "()V"⟩, 56) := ⟨⟨by decide +kernel, by decide +kernel⟩, List.mem_of_getElem? (i := 831) (by decide +kernel), List.mem_of_getElem? (i := 1147) (by decide +kernel), List.mem_of_getElem? (i := 1148) (by decide +kernel)⟩
theorem lw_p59 : lw_okq (⟨"ChipBurnerModel", "see", "(I)I"⟩, 56) := ⟨⟨by decide +kernel, by decide +kernel⟩, List.mem_of_getElem? (i := 831) (by decide +kernel), List.mem_of_getElem? (i := 1151) (by decide +kernel), List.mem_of_getElem? (i := 1152) (by decide +kernel)⟩
theorem lw_p60 : lw_okq (⟨"ChipBurnerModel", "brace", "()I"⟩, 56) := ⟨⟨by decide +kernel, by decide +kernel⟩, List.mem_of_getElem? (i := 831) (by decide +kernel), List.mem_of_getElem? (i := 1170) (by decide +kernel), List.mem_of_getElem? (i := 1171) (by decide +kernel)⟩
theorem lw_p61 : lw_okq (⟨"ChipBurnerModel", "order", "(III)I"⟩, 56) := ⟨⟨by decide +kernel, by decide +kernel⟩, List.mem_of_getElem? (i := 831) (by decide +kernel), List.mem_of_getElem? (i := 1174) (by decide +kernel), List.mem_of_getElem? (i := 1175) (by decide +kernel)⟩
theorem lw_p62 : lw_okq (⟨"ChipBurnerModel", "close", "(II)V"⟩, 56) := ⟨⟨by decide +kernel, by decide +kernel⟩, List.mem_of_getElem? (i := 831) (by decide +kernel), List.mem_of_getElem? (i := 1180) (by decide +kernel), List.mem_of_getElem? (i := 1181) (by decide +kernel)⟩
theorem lw_p63 : lw_okq (⟨"ChipBurnerModel", "step", "()I"⟩, 56) := ⟨⟨by decide +kernel, by decide +kernel⟩, List.mem_of_getElem? (i := 831) (by decide +kernel), List.mem_of_getElem? (i := 1187) (by decide +kernel), List.mem_of_getElem? (i := 1188) (by decide +kernel)⟩
def lw_privs_4 : List (MethodName × Nat) := [(⟨"ChipBurnerModel", "lineTwo", "(II)I"⟩, 56), (⟨"ChipBurnerModel", "writeLine", "(IIII)V"⟩, 56), (⟨"ChipBurnerModel", "writeSign", "(I)V"⟩, 56), (⟨"ChipBurnerModel", "writeByte", "(I)V"⟩, 56), (⟨"ChipBurnerModel", "isAddress", "(II)Z"⟩, 56), (⟨"ChipBurnerModel", "isChip", "(I)Z"⟩, 56), (⟨"ChipBurnerModel", "logicals", "(I)I"⟩, 56), (⟨"ChipBurnerModel", "addressOf", "(II)I"⟩, 56), (⟨"ChipBurnerModel", "lacking", "(I)I"⟩, 56), (⟨"ChipBurnerModel", "readRecipe", "()I"⟩, 56), (⟨"ChipBurnerModel", "nextToken", "()V"⟩, 56), (⟨"ChipBurnerModel", "see", "(I)I"⟩, 56), (⟨"ChipBurnerModel", "brace", "()I"⟩, 56), (⟨"ChipBurnerModel", "order", "(III)I"⟩, 56), (⟨"ChipBurnerModel", "close", "(II)V"⟩, 56), (⟨"ChipBurnerModel", "step", "()I"⟩, 56)]
theorem lw_r4 : ∀ q ∈ lw_privs_4, lw_okq q := List.forall_mem_cons.mpr ⟨lw_p48, List.forall_mem_cons.mpr ⟨lw_p49, List.forall_mem_cons.mpr ⟨lw_p50, List.forall_mem_cons.mpr ⟨lw_p51, List.forall_mem_cons.mpr ⟨lw_p52, List.forall_mem_cons.mpr ⟨lw_p53, List.forall_mem_cons.mpr ⟨lw_p54, List.forall_mem_cons.mpr ⟨lw_p55, List.forall_mem_cons.mpr ⟨lw_p56, List.forall_mem_cons.mpr ⟨lw_p57, List.forall_mem_cons.mpr ⟨lw_p58, List.forall_mem_cons.mpr ⟨lw_p59, List.forall_mem_cons.mpr ⟨lw_p60, List.forall_mem_cons.mpr ⟨lw_p61, List.forall_mem_cons.mpr ⟨lw_p62, List.forall_mem_cons.mpr ⟨lw_p63, fun _ h => absurd h List.not_mem_nil⟩⟩⟩⟩⟩⟩⟩⟩⟩⟩⟩⟩⟩⟩⟩⟩
theorem lw_p64 : lw_okq (⟨"ChipBurnerModel", "semicolon", "()I"⟩, 56) := ⟨⟨by decide +kernel, by decide +kernel⟩, List.mem_of_getElem? (i := 831) (by decide +kernel), List.mem_of_getElem? (i := 1191) (by decide +kernel), List.mem_of_getElem? (i := 1192) (by decide +kernel)⟩
theorem lw_p65 : lw_okq (⟨"ChipBurnerModel", "begin", "(I)V"⟩, 56) := ⟨⟨by decide +kernel, by decide +kernel⟩, List.mem_of_getElem? (i := 831) (by decide +kernel), List.mem_of_getElem? (i := 1195) (by decide +kernel), List.mem_of_getElem? (i := 1196) (by decide +kernel)⟩
theorem lw_p66 : lw_okq (⟨"ChipBurnerModel", "mostVolts", "(I)I"⟩, 56) := ⟨⟨by decide +kernel, by decide +kernel⟩, List.mem_of_getElem? (i := 831) (by decide +kernel), List.mem_of_getElem? (i := 1203) (by decide +kernel), List.mem_of_getElem? (i := 1204) (by decide +kernel)⟩
theorem lw_p67 : lw_okq (⟨"ChipBurnerModel", "flowFrom", "(II)V"⟩, 56) := ⟨⟨by decide +kernel, by decide +kernel⟩, List.mem_of_getElem? (i := 831) (by decide +kernel), List.mem_of_getElem? (i := 1207) (by decide +kernel), List.mem_of_getElem? (i := 1208) (by decide +kernel)⟩
theorem lw_p68 : lw_okq (⟨"ChipBurnerModel", "flow", "(II)V"⟩, 56) := ⟨⟨by decide +kernel, by decide +kernel⟩, List.mem_of_getElem? (i := 831) (by decide +kernel), List.mem_of_getElem? (i := 1211) (by decide +kernel), List.mem_of_getElem? (i := 1212) (by decide +kernel)⟩
theorem lw_p69 : lw_okq (⟨"ChipBurnerModel", "whyNot", "(IIIII)I"⟩, 56) := ⟨⟨by decide +kernel, by decide +kernel⟩, List.mem_of_getElem? (i := 831) (by decide +kernel), List.mem_of_getElem? (i := 1223) (by decide +kernel), List.mem_of_getElem? (i := 1224) (by decide +kernel)⟩
theorem lw_p70 : lw_okq (⟨"ChipBurnerModel", "isFit", "(II)Z"⟩, 56) := ⟨⟨by decide +kernel, by decide +kernel⟩, List.mem_of_getElem? (i := 831) (by decide +kernel), List.mem_of_getElem? (i := 1227) (by decide +kernel), List.mem_of_getElem? (i := 1228) (by decide +kernel)⟩
theorem lw_p71 : lw_okq (⟨"ChipBurnerModel", "last", "(III)I"⟩, 56) := ⟨⟨by decide +kernel, by decide +kernel⟩, List.mem_of_getElem? (i := 831) (by decide +kernel), List.mem_of_getElem? (i := 1231) (by decide +kernel), List.mem_of_getElem? (i := 1232) (by decide +kernel)⟩
theorem lw_p72 : lw_okq (⟨"ChipBurnerModel", "isWrong", "(III)Z"⟩, 56) := ⟨⟨by decide +kernel, by decide +kernel⟩, List.mem_of_getElem? (i := 831) (by decide +kernel), List.mem_of_getElem? (i := 1240) (by decide +kernel), List.mem_of_getElem? (i := 1241) (by decide +kernel)⟩
theorem lw_p73 : lw_okq (⟨"ChipBurnerModel", "work", "(IIII)V"⟩, 56) := ⟨⟨by decide +kernel, by decide +kernel⟩, List.mem_of_getElem? (i := 831) (by decide +kernel), List.mem_of_getElem? (i := 1244) (by decide +kernel), List.mem_of_getElem? (i := 1245) (by decide +kernel)⟩
theorem lw_p74 : lw_okq (⟨"ChipBurnerModel", "pulse", "(IIII)V"⟩, 56) := ⟨⟨by decide +kernel, by decide +kernel⟩, List.mem_of_getElem? (i := 831) (by decide +kernel), List.mem_of_getElem? (i := 1248) (by decide +kernel), List.mem_of_getElem? (i := 1249) (by decide +kernel)⟩
def lw_privs_5 : List (MethodName × Nat) := [(⟨"ChipBurnerModel", "semicolon", "()I"⟩, 56), (⟨"ChipBurnerModel", "begin", "(I)V"⟩, 56), (⟨"ChipBurnerModel", "mostVolts", "(I)I"⟩, 56), (⟨"ChipBurnerModel", "flowFrom", "(II)V"⟩, 56), (⟨"ChipBurnerModel", "flow", "(II)V"⟩, 56), (⟨"ChipBurnerModel", "whyNot", "(IIIII)I"⟩, 56), (⟨"ChipBurnerModel", "isFit", "(II)Z"⟩, 56), (⟨"ChipBurnerModel", "last", "(III)I"⟩, 56), (⟨"ChipBurnerModel", "isWrong", "(III)Z"⟩, 56), (⟨"ChipBurnerModel", "work", "(IIII)V"⟩, 56), (⟨"ChipBurnerModel", "pulse", "(IIII)V"⟩, 56)]
theorem lw_r5 : ∀ q ∈ lw_privs_5, lw_okq q := List.forall_mem_cons.mpr ⟨lw_p64, List.forall_mem_cons.mpr ⟨lw_p65, List.forall_mem_cons.mpr ⟨lw_p66, List.forall_mem_cons.mpr ⟨lw_p67, List.forall_mem_cons.mpr ⟨lw_p68, List.forall_mem_cons.mpr ⟨lw_p69, List.forall_mem_cons.mpr ⟨lw_p70, List.forall_mem_cons.mpr ⟨lw_p71, List.forall_mem_cons.mpr ⟨lw_p72, List.forall_mem_cons.mpr ⟨lw_p73, List.forall_mem_cons.mpr ⟨lw_p74, fun _ h => absurd h List.not_mem_nil⟩⟩⟩⟩⟩⟩⟩⟩⟩⟩⟩
def lw_privs : List (MethodName × Nat) := lw_privs_1 ++ (lw_privs_2 ++ (lw_privs_3 ++ (lw_privs_4 ++ (lw_privs_5))))
def lw_tbl : List Cond := k2_sels lw_privs ++ tables_1
theorem lw_privs_ok : ∀ q ∈ lw_privs, lw_okq q := by
  show ∀ q ∈ lw_privs_1 ++ (lw_privs_2 ++ (lw_privs_3 ++ (lw_privs_4 ++ (lw_privs_5)))), lw_okq q
  exact List.forall_mem_append.mpr ⟨lw_r1, List.forall_mem_append.mpr ⟨lw_r2, List.forall_mem_append.mpr ⟨lw_r3, List.forall_mem_append.mpr ⟨lw_r4, lw_r5⟩⟩⟩⟩
end
section

def RX0 : String := "ChipBurner$Chip"
def TX0 : u_T := fun k => match k with
  | 0 => ("ChipBurner$Chip", "size", "I", true)
  | 1 => ("ChipBurner$Chip", "id", "I", true)
  | 2 => ("ChipBurner$Chip", "erasable", "Z", true)
  | 3 => ("ChipBurner$Chip", "least", "I", false)
  | 4 => ("ChipBurner$Chip", "most", "I", false)
  | 5 => ("ChipBurner$Chip", "bears", "I", false)
  | 6 => ("ChipBurner$Chip", "extra", "I", false)
  | 7 => ("ChipBurner$Chip", "life", "I", false)
  | 8 => ("ChipBurner$Chip", "low", "[I", true)
  | 9 => ("ChipBurner$Chip", "high", "[I", true)
  | 10 => ("ChipBurner$Chip", "needs", "[I", true)
  | 11 => ("ChipBurner$Chip", "counts", "[I", true)
  | 12 => ("ChipBurner$Chip", "latestData", "[I", true)
  | 13 => ("ChipBurner$Chip", "badBlocks", "[Z", true)
  | 14 => ("ChipBurner$Chip", "lacking", "[Z", true)
  | 15 => ("ChipBurner$Chip", "erasures", "I", false)
  | _ => ("ChipBurner$Chip", "pulsesEver", "I", false)
def tyX0 : Nat → FieldType := fun k => match k with
  | 0 => .int
  | 1 => .int
  | 2 => .boolean
  | 3 => .int
  | 4 => .int
  | 5 => .int
  | 6 => .int
  | 7 => .int
  | 8 => .array .int
  | 9 => .array .int
  | 10 => .array .int
  | 11 => .array .int
  | 12 => .array .int
  | 13 => .array .boolean
  | 14 => .array .boolean
  | 15 => .int
  | _ => .int
abbrev wsX00 : List Cond := u_ws RX0 TX0 17
theorem nmX0 : ∀ a, a < 17 → ∀ b, b < 17 → a ≠ b → (TX0 a).2.1 ≠ (TX0 b).2.1 := by decide +kernel
theorem tyX0_ok : ∀ k, k < 17 → parseFieldDescriptor (TX0 k).2.2.1 = some (tyX0 k) := by decide +kernel
abbrev cX0_init : ByteArray := prog_2_method_1_code
def yX0_init : MethodName := ⟨RX0, "<init>", "(IIZ)V"⟩
abbrev cX0_setLimits : ByteArray := prog_2_method_2_code
def yX0_setLimits : MethodName := ⟨RX0, "setLimits", "(III)V"⟩
abbrev cX0_setWear : ByteArray := prog_2_method_3_code
def yX0_setWear : MethodName := ⟨RX0, "setWear", "(II)V"⟩
abbrev cX0_setNeed : ByteArray := prog_2_method_4_code
def yX0_setNeed : MethodName := ⟨RX0, "setNeed", "(II)Z"⟩
abbrev cX0_setBad : ByteArray := prog_2_method_5_code
def yX0_setBad : MethodName := ⟨RX0, "setBad", "(IZ)Z"⟩
abbrev cX0_setContact : ByteArray := prog_2_method_6_code
def yX0_setContact : MethodName := ⟨RX0, "setContact", "(IZ)Z"⟩
abbrev cX0_wipe : ByteArray := prog_2_method_7_code
def yX0_wipe : MethodName := ⟨RX0, "wipe", "()V"⟩
abbrev cX0_property : ByteArray := prog_2_method_8_code
def yX0_property : MethodName := ⟨RX0, "property", "(I)I"⟩
abbrev cX0_cell : ByteArray := prog_2_method_9_code
def yX0_cell : MethodName := ⟨RX0, "cell", "(II)I"⟩
abbrev cX0_firstLackingPin : ByteArray := prog_2_method_10_code
def yX0_firstLackingPin : MethodName := ⟨RX0, "firstLackingPin", "()I"⟩
abbrev cX0_logicalCount : ByteArray := prog_2_method_11_code
def yX0_logicalCount : MethodName := ⟨RX0, "logicalCount", "()I"⟩
abbrev cX0_addressOf : ByteArray := prog_2_method_12_code
def yX0_addressOf : MethodName := ⟨RX0, "addressOf", "(I)I"⟩
abbrev cX0_isRight : ByteArray := prog_2_method_13_code
def yX0_isRight : MethodName := ⟨RX0, "isRight", "(II)Z"⟩
abbrev cX0_mustGoBack : ByteArray := prog_2_method_14_code
def yX0_mustGoBack : MethodName := ⟨RX0, "mustGoBack", "(II)Z"⟩
abbrev cX0_takePulse : ByteArray := prog_2_method_15_code
def yX0_takePulse : MethodName := ⟨RX0, "takePulse", "(III)V"⟩
abbrev cX0_blockCount : ByteArray := prog_2_method_16_code
def yX0_blockCount : MethodName := ⟨RX0, "blockCount", "()I"⟩
abbrev cX0_isAddress : ByteArray := prog_2_method_17_code
def yX0_isAddress : MethodName := ⟨RX0, "isAddress", "(I)Z"⟩
def RX1 : String := "ChipBurner$Finding"
def TX1 : u_T := fun k => match k with
  | 0 => ("ChipBurner$Finding", "kind", "I", false)
  | _ => ("ChipBurner$Finding", "place", "I", false)
def tyX1 : Nat → FieldType := fun k => match k with
  | 0 => .int
  | _ => .int
abbrev wsX10 : List Cond := u_ws RX1 TX1 2
theorem nmX1 : ∀ a, a < 2 → ∀ b, b < 2 → a ≠ b → (TX1 a).2.1 ≠ (TX1 b).2.1 := by decide +kernel
theorem tyX1_ok : ∀ k, k < 2 → parseFieldDescriptor (TX1 k).2.2.1 = some (tyX1 k) := by decide +kernel
abbrev cX1_init : ByteArray := prog_3_method_1_code
def yX1_init : MethodName := ⟨RX1, "<init>", "()V"⟩
abbrev cX1_start : ByteArray := prog_3_method_2_code
def yX1_start : MethodName := ⟨RX1, "start", "()V"⟩
abbrev cX1_mark : ByteArray := prog_3_method_3_code
def yX1_mark : MethodName := ⟨RX1, "mark", "(II)V"⟩
abbrev cX1_isFault : ByteArray := prog_3_method_4_code
def yX1_isFault : MethodName := ⟨RX1, "isFault", "()Z"⟩
def RX2 : String := "ChipBurner$FormReader"
def TX2 : u_T := fun k => match k with
  | 0 => ("ChipBurner$FormReader", "source", "LChipBurner$Tape;", true)
  | 1 => ("ChipBurner$FormReader", "finding", "LChipBurner$Finding;", true)
  | 2 => ("ChipBurner$FormReader", "staged", "[I", true)
  | 3 => ("ChipBurner$FormReader", "dataBytes", "I", false)
  | 4 => ("ChipBurner$FormReader", "ended", "Z", false)
  | 5 => ("ChipBurner$FormReader", "lineType", "I", false)
  | 6 => ("ChipBurner$FormReader", "lineAddress", "I", false)
  | 7 => ("ChipBurner$FormReader", "lineData", "I", false)
  | _ => ("ChipBurner$FormReader", "lineCount", "I", false)
def tyX2 : Nat → FieldType := fun k => match k with
  | 0 => .object "ChipBurner$Tape"
  | 1 => .object "ChipBurner$Finding"
  | 2 => .array .int
  | 3 => .int
  | 4 => .boolean
  | 5 => .int
  | 6 => .int
  | 7 => .int
  | _ => .int
abbrev wsX20 : List Cond := u_ws RX2 TX2 9
theorem nmX2 : ∀ a, a < 9 → ∀ b, b < 9 → a ≠ b → (TX2 a).2.1 ≠ (TX2 b).2.1 := by decide +kernel
theorem tyX2_ok : ∀ k, k < 9 → parseFieldDescriptor (TX2 k).2.2.1 = some (tyX2 k) := by decide +kernel
abbrev cX2_init : ByteArray := prog_4_method_1_code
def yX2_init : MethodName := ⟨RX2, "<init>", "(LChipBurner$Tape;LChipBurner$Finding;)V"⟩
abbrev cX2_readInto : ByteArray := prog_4_method_2_code
def yX2_readInto : MethodName := ⟨RX2, "readInto", "([II)I"⟩
abbrev cX2_takePlain : ByteArray := prog_4_method_3_code
def yX2_takePlain : MethodName := ⟨RX2, "takePlain", "()V"⟩
abbrev cX2_takeLines : ByteArray := prog_4_method_4_code
def yX2_takeLines : MethodName := ⟨RX2, "takeLines", "(I)V"⟩
abbrev cX2_stopOf : ByteArray := prog_4_method_5_code
def yX2_stopOf : MethodName := ⟨RX2, "stopOf", "(II)I"⟩
abbrev cX2_takeLine : ByteArray := prog_4_method_6_code
def yX2_takeLine : MethodName := ⟨RX2, "takeLine", "(III)V"⟩
abbrev cX2_takeData : ByteArray := prog_4_method_7_code
def yX2_takeData : MethodName := ⟨RX2, "takeData", "(I)V"⟩
abbrev cX2_isColonLine : ByteArray := prog_4_method_8_code
def yX2_isColonLine : MethodName := ⟨RX2, "isColonLine", "(II)Z"⟩
abbrev cX2_isSLine : ByteArray := prog_4_method_9_code
def yX2_isSLine : MethodName := ⟨RX2, "isSLine", "(II)Z"⟩
abbrev cX2_areDigits : ByteArray := prog_4_method_10_code
def yX2_areDigits : MethodName := ⟨RX2, "areDigits", "(II)Z"⟩
abbrev cX2_sumOf : ByteArray := prog_4_method_11_code
def yX2_sumOf : MethodName := ⟨RX2, "sumOf", "(II)I"⟩
abbrev cX2_stage : ByteArray := prog_4_method_12_code
def yX2_stage : MethodName := ⟨RX2, "stage", "(II)V"⟩
def RX3 : String := "ChipBurner$FormWriter"
def TX3 : u_T := fun k => match k with
  | 0 => ("ChipBurner$FormWriter", "target", "LChipBurner$Tape;", true)
  | _ => ("ChipBurner$FormWriter", "sum", "I", false)
def tyX3 : Nat → FieldType := fun k => match k with
  | 0 => .object "ChipBurner$Tape"
  | _ => .int
abbrev wsX30 : List Cond := u_ws RX3 TX3 2
theorem nmX3 : ∀ a, a < 2 → ∀ b, b < 2 → a ≠ b → (TX3 a).2.1 ≠ (TX3 b).2.1 := by decide +kernel
theorem tyX3_ok : ∀ k, k < 2 → parseFieldDescriptor (TX3 k).2.2.1 = some (tyX3 k) := by decide +kernel
abbrev cX3_init : ByteArray := prog_5_method_1_code
def yX3_init : MethodName := ⟨RX3, "<init>", "(LChipBurner$Tape;)V"⟩
abbrev cX3_lengthOf : ByteArray := prog_5_method_2_code
def yX3_lengthOf : MethodName := ⟨RX3, "lengthOf", "(II)I"⟩
abbrev cX3_writeOut : ByteArray := prog_5_method_3_code
def yX3_writeOut : MethodName := ⟨RX3, "writeOut", "([IIII)V"⟩
abbrev cX3_startLine : ByteArray := prog_5_method_4_code
def yX3_startLine : MethodName := ⟨RX3, "startLine", "(IIII)V"⟩
abbrev cX3_stopLine : ByteArray := prog_5_method_5_code
def yX3_stopLine : MethodName := ⟨RX3, "stopLine", "(I)V"⟩
abbrev cX3_addAddress : ByteArray := prog_5_method_6_code
def yX3_addAddress : MethodName := ⟨RX3, "addAddress", "(I)V"⟩
abbrev cX3_addByte : ByteArray := prog_5_method_7_code
def yX3_addByte : MethodName := ⟨RX3, "addByte", "(I)V"⟩
def RX4 : String := "ChipBurner$Recipe"
def TX4 : u_T := fun k => match k with
  | 0 => ("ChipBurner$Recipe", "kinds", "[I", true)
  | 1 => ("ChipBurner$Recipe", "numbers", "[I", true)
  | 2 => ("ChipBurner$Recipe", "otherwise", "[I", true)
  | 3 => ("ChipBurner$Recipe", "behind", "[I", true)
  | 4 => ("ChipBurner$Recipe", "count", "I", false)
  | 5 => ("ChipBurner$Recipe", "peakVolts", "I", false)
  | 6 => ("ChipBurner$Recipe", "mostPulses", "I", false)
  | _ => ("ChipBurner$Recipe", "mostWorked", "I", false)
def tyX4 : Nat → FieldType := fun k => match k with
  | 0 => .array .int
  | 1 => .array .int
  | 2 => .array .int
  | 3 => .array .int
  | 4 => .int
  | 5 => .int
  | 6 => .int
  | _ => .int
abbrev wsX40 : List Cond := u_ws RX4 TX4 8
theorem nmX4 : ∀ a, a < 8 → ∀ b, b < 8 → a ≠ b → (TX4 a).2.1 ≠ (TX4 b).2.1 := by decide +kernel
theorem tyX4_ok : ∀ k, k < 8 → parseFieldDescriptor (TX4 k).2.2.1 = some (tyX4 k) := by decide +kernel
abbrev cX4_init : ByteArray := prog_6_method_1_code
def yX4_init : MethodName := ⟨RX4, "<init>", "()V"⟩
abbrev cX4_clear : ByteArray := prog_6_method_2_code
def yX4_clear : MethodName := ⟨RX4, "clear", "()V"⟩
abbrev cX4_isFull : ByteArray := prog_6_method_3_code
def yX4_isFull : MethodName := ⟨RX4, "isFull", "()Z"⟩
abbrev cX4_addStep : ByteArray := prog_6_method_4_code
def yX4_addStep : MethodName := ⟨RX4, "addStep", "(I)I"⟩
abbrev cX4_setNumber : ByteArray := prog_6_method_5_code
def yX4_setNumber : MethodName := ⟨RX4, "setNumber", "(II)V"⟩
abbrev cX4_startOtherwise : ByteArray := prog_6_method_6_code
def yX4_startOtherwise : MethodName := ⟨RX4, "startOtherwise", "(I)V"⟩
abbrev cX4_close : ByteArray := prog_6_method_7_code
def yX4_close : MethodName := ⟨RX4, "close", "(I)V"⟩
abbrev cX4_kindOf : ByteArray := prog_6_method_8_code
def yX4_kindOf : MethodName := ⟨RX4, "kindOf", "(I)I"⟩
abbrev cX4_numberOf : ByteArray := prog_6_method_9_code
def yX4_numberOf : MethodName := ⟨RX4, "numberOf", "(I)I"⟩
abbrev cX4_otherwiseOf : ByteArray := prog_6_method_10_code
def yX4_otherwiseOf : MethodName := ⟨RX4, "otherwiseOf", "(I)I"⟩
abbrev cX4_behindOf : ByteArray := prog_6_method_11_code
def yX4_behindOf : MethodName := ⟨RX4, "behindOf", "(I)I"⟩
abbrev cX4_measure : ByteArray := prog_6_method_12_code
def yX4_measure : MethodName := ⟨RX4, "measure", "()V"⟩
abbrev cX4_fits : ByteArray := prog_6_method_13_code
def yX4_fits : MethodName := ⟨RX4, "fits", "(LChipBurner$Chip;)Z"⟩
abbrev cX4_volts : ByteArray := prog_6_method_14_code
def yX4_volts : MethodName := ⟨RX4, "volts", "(IIII)I"⟩
abbrev cX4_voltsOfTry : ByteArray := prog_6_method_15_code
def yX4_voltsOfTry : MethodName := ⟨RX4, "voltsOfTry", "(III)I"⟩
abbrev cX4_most : ByteArray := prog_6_method_16_code
def yX4_most : MethodName := ⟨RX4, "most", "(ZIII)J"⟩
abbrev cX4_isStep : ByteArray := prog_6_method_17_code
def yX4_isStep : MethodName := ⟨RX4, "isStep", "(I)Z"⟩
def RX5 : String := "ChipBurner$RecipeReader"
def TX5 : u_T := fun k => match k with
  | 0 => ("ChipBurner$RecipeReader", "text", "LChipBurner$Tape;", true)
  | 1 => ("ChipBurner$RecipeReader", "finding", "LChipBurner$Finding;", true)
  | 2 => ("ChipBurner$RecipeReader", "tokenKind", "I", false)
  | 3 => ("ChipBurner$RecipeReader", "tokenFrom", "I", false)
  | 4 => ("ChipBurner$RecipeReader", "tokenStop", "I", false)
  | 5 => ("ChipBurner$RecipeReader", "open", "[I", true)
  | 6 => ("ChipBurner$RecipeReader", "wantsElse", "[Z", true)
  | _ => ("ChipBurner$RecipeReader", "openCount", "I", false)
def tyX5 : Nat → FieldType := fun k => match k with
  | 0 => .object "ChipBurner$Tape"
  | 1 => .object "ChipBurner$Finding"
  | 2 => .int
  | 3 => .int
  | 4 => .int
  | 5 => .array .int
  | 6 => .array .boolean
  | _ => .int
abbrev wsX50 : List Cond := u_ws RX5 TX5 8
theorem nmX5 : ∀ a, a < 8 → ∀ b, b < 8 → a ≠ b → (TX5 a).2.1 ≠ (TX5 b).2.1 := by decide +kernel
theorem tyX5_ok : ∀ k, k < 8 → parseFieldDescriptor (TX5 k).2.2.1 = some (tyX5 k) := by decide +kernel
abbrev cX5_init : ByteArray := prog_7_method_1_code
def yX5_init : MethodName := ⟨RX5, "<init>", "(LChipBurner$Tape;LChipBurner$Finding;)V"⟩
abbrev cX5_readInto : ByteArray := prog_7_method_2_code
def yX5_readInto : MethodName := ⟨RX5, "readInto", "(LChipBurner$Recipe;)Z"⟩
abbrev cX5_takeStep : ByteArray := prog_7_method_3_code
def yX5_takeStep : MethodName := ⟨RX5, "takeStep", "(LChipBurner$Recipe;)Z"⟩
abbrev cX5_takeOpening : ByteArray := prog_7_method_4_code
def yX5_takeOpening : MethodName := ⟨RX5, "takeOpening", "(IZ)Z"⟩
abbrev cX5_takeClosing : ByteArray := prog_7_method_5_code
def yX5_takeClosing : MethodName := ⟨RX5, "takeClosing", "(LChipBurner$Recipe;)Z"⟩
abbrev cX5_takeNumber : ByteArray := prog_7_method_6_code
def yX5_takeNumber : MethodName := ⟨RX5, "takeNumber", "(LChipBurner$Recipe;III)Z"⟩
abbrev cX5_takeSign : ByteArray := prog_7_method_7_code
def yX5_takeSign : MethodName := ⟨RX5, "takeSign", "(I)Z"⟩
abbrev cX5_refuse : ByteArray := prog_7_method_8_code
def yX5_refuse : MethodName := ⟨RX5, "refuse", "(I)Z"⟩
abbrev cX5_stepKind : ByteArray := prog_7_method_9_code
def yX5_stepKind : MethodName := ⟨RX5, "stepKind", "()I"⟩
abbrev cX5_isWord : ByteArray := prog_7_method_10_code
def yX5_isWord : MethodName := ⟨RX5, "isWord", "(Ljava/lang/String;)Z"⟩
abbrev cX5_isSign : ByteArray := prog_7_method_11_code
def yX5_isSign : MethodName := ⟨RX5, "isSign", "(I)Z"⟩
abbrev cX5_tokenNumber : ByteArray := prog_7_method_12_code
def yX5_tokenNumber : MethodName := ⟨RX5, "tokenNumber", "()I"⟩
abbrev cX5_nextToken : ByteArray := prog_7_method_13_code
def yX5_nextToken : MethodName := ⟨RX5, "nextToken", "()V"⟩
abbrev cX5_behindBlanks : ByteArray := prog_7_method_14_code
def yX5_behindBlanks : MethodName := ⟨RX5, "behindBlanks", "(I)I"⟩
abbrev cX5_behindSame : ByteArray := prog_7_method_15_code
def yX5_behindSame : MethodName := ⟨RX5, "behindSame", "(II)I"⟩
abbrev cX5_kindOfByte : ByteArray := prog_7_method_16_code
def yX5_kindOfByte : MethodName := ⟨RX5, "kindOfByte", "(I)I"⟩
def RX6 : String := "ChipBurner$Tape"
def TX6 : u_T := fun k => match k with
  | 0 => ("ChipBurner$Tape", "bytes", "[I", true)
  | _ => ("ChipBurner$Tape", "length", "I", false)
def tyX6 : Nat → FieldType := fun k => match k with
  | 0 => .array .int
  | _ => .int
abbrev wsX60 : List Cond := u_ws RX6 TX6 2
theorem nmX6 : ∀ a, a < 2 → ∀ b, b < 2 → a ≠ b → (TX6 a).2.1 ≠ (TX6 b).2.1 := by decide +kernel
theorem tyX6_ok : ∀ k, k < 2 → parseFieldDescriptor (TX6 k).2.2.1 = some (tyX6 k) := by decide +kernel
abbrev cX6_init : ByteArray := prog_8_method_1_code
def yX6_init : MethodName := ⟨RX6, "<init>", "()V"⟩
abbrev cX6_size : ByteArray := prog_8_method_2_code
def yX6_size : MethodName := ⟨RX6, "size", "()I"⟩
abbrev cX6_at : ByteArray := prog_8_method_3_code
def yX6_at : MethodName := ⟨RX6, "at", "(I)I"⟩
abbrev cX6_cutTo : ByteArray := prog_8_method_4_code
def yX6_cutTo : MethodName := ⟨RX6, "cutTo", "(I)Z"⟩
abbrev cX6_add : ByteArray := prog_8_method_5_code
def yX6_add : MethodName := ⟨RX6, "add", "(I)V"⟩
abbrev cX6_addFour : ByteArray := prog_8_method_6_code
def yX6_addFour : MethodName := ⟨RX6, "addFour", "(I)V"⟩
abbrev cX6_addDigit : ByteArray := prog_8_method_7_code
def yX6_addDigit : MethodName := ⟨RX6, "addDigit", "(I)V"⟩
abbrev cX6_digitAt : ByteArray := prog_8_method_8_code
def yX6_digitAt : MethodName := ⟨RX6, "digitAt", "(I)I"⟩
abbrev cX6_pairAt : ByteArray := prog_8_method_9_code
def yX6_pairAt : MethodName := ⟨RX6, "pairAt", "(I)I"⟩
def RX7 : String := "ChipBurner$Worker"
def TX7 : u_T := fun k => match k with
  | 0 => ("ChipBurner$Worker", "chip", "LChipBurner$Chip;", true)
  | 1 => ("ChipBurner$Worker", "recipe", "LChipBurner$Recipe;", true)
  | 2 => ("ChipBurner$Worker", "left", "I", false)
  | 3 => ("ChipBurner$Worker", "address", "I", false)
  | 4 => ("ChipBurner$Worker", "aim", "I", false)
  | 5 => ("ChipBurner$Worker", "voltsNow", "I", false)
  | _ => ("ChipBurner$Worker", "verified", "Z", false)
def tyX7 : Nat → FieldType := fun k => match k with
  | 0 => .object "ChipBurner$Chip"
  | 1 => .object "ChipBurner$Recipe"
  | 2 => .int
  | 3 => .int
  | 4 => .int
  | 5 => .int
  | _ => .boolean
abbrev wsX70 : List Cond := u_ws RX7 TX7 7
theorem nmX7 : ∀ a, a < 7 → ∀ b, b < 7 → a ≠ b → (TX7 a).2.1 ≠ (TX7 b).2.1 := by decide +kernel
theorem tyX7_ok : ∀ k, k < 7 → parseFieldDescriptor (TX7 k).2.2.1 = some (tyX7 k) := by decide +kernel
abbrev cX7_init : ByteArray := prog_9_method_1_code
def yX7_init : MethodName := ⟨RX7, "<init>", "(LChipBurner$Chip;LChipBurner$Recipe;I)V"⟩
abbrev cX7_workAt : ByteArray := prog_9_method_2_code
def yX7_workAt : MethodName := ⟨RX7, "workAt", "(II)V"⟩
abbrev cX7_workSteps : ByteArray := prog_9_method_3_code
def yX7_workSteps : MethodName := ⟨RX7, "workSteps", "(III)V"⟩
abbrev cX7_workStep : ByteArray := prog_9_method_4_code
def yX7_workStep : MethodName := ⟨RX7, "workStep", "(II)V"⟩
abbrev cX7_workBranch : ByteArray := prog_9_method_5_code
def yX7_workBranch : MethodName := ⟨RX7, "workBranch", "(II)V"⟩
abbrev cX7_givePulses : ByteArray := prog_9_method_6_code
def yX7_givePulses : MethodName := ⟨RX7, "givePulses", "(I)V"⟩
def RX8 : String := "ChipBurner"
def TX8 : u_T := fun k => match k with
  | 0 => ("ChipBurner", "reel", "LChipBurner$Tape;", true)
  | 1 => ("ChipBurner", "picture", "[I", true)
  | 2 => ("ChipBurner", "latest", "LChipBurner$Finding;", true)
  | 3 => ("ChipBurner", "formReader", "LChipBurner$FormReader;", true)
  | 4 => ("ChipBurner", "formWriter", "LChipBurner$FormWriter;", true)
  | 5 => ("ChipBurner", "recipeReader", "LChipBurner$RecipeReader;", true)
  | 6 => ("ChipBurner", "chips", "[LChipBurner$Chip;", true)
  | 7 => ("ChipBurner", "chipCount", "I", false)
  | 8 => ("ChipBurner", "recipes", "[LChipBurner$Recipe;", true)
  | 9 => ("ChipBurner", "spare", "LChipBurner$Recipe;", false)
  | _ => ("ChipBurner", "brought", "I", false)
def tyX8 : Nat → FieldType := fun k => match k with
  | 0 => .object "ChipBurner$Tape"
  | 1 => .array .int
  | 2 => .object "ChipBurner$Finding"
  | 3 => .object "ChipBurner$FormReader"
  | 4 => .object "ChipBurner$FormWriter"
  | 5 => .object "ChipBurner$RecipeReader"
  | 6 => .array (.object "ChipBurner$Chip")
  | 7 => .int
  | 8 => .array (.object "ChipBurner$Recipe")
  | 9 => .object "ChipBurner$Recipe"
  | _ => .int
abbrev wsX80 : List Cond := u_ws RX8 TX8 11
theorem nmX8 : ∀ a, a < 11 → ∀ b, b < 11 → a ≠ b → (TX8 a).2.1 ≠ (TX8 b).2.1 := by decide +kernel
theorem tyX8_ok : ∀ k, k < 11 → parseFieldDescriptor (TX8 k).2.2.1 = some (tyX8 k) := by decide +kernel
abbrev cX8_init : ByteArray := prog_1_method_1_code
def yX8_init : MethodName := ⟨RX8, "<init>", "()V"⟩
abbrev cX8_feed : ByteArray := prog_1_method_2_code
def yX8_feed : MethodName := ⟨RX8, "feed", "(IIIII)I"⟩
abbrev cX8_end : ByteArray := prog_1_method_3_code
def yX8_end : MethodName := ⟨RX8, "end", "(I)I"⟩
abbrev cX8_file : ByteArray := prog_1_method_4_code
def yX8_file : MethodName := ⟨RX8, "file", "(I)I"⟩
abbrev cX8_fault : ByteArray := prog_1_method_5_code
def yX8_fault : MethodName := ⟨RX8, "fault", "(I)I"⟩
abbrev cX8_write : ByteArray := prog_1_method_6_code
def yX8_write : MethodName := ⟨RX8, "write", "(III)I"⟩
abbrev cX8_tape : ByteArray := prog_1_method_7_code
def yX8_tape : MethodName := ⟨RX8, "tape", "(I)I"⟩
abbrev cX8_image : ByteArray := prog_1_method_8_code
def yX8_image : MethodName := ⟨RX8, "image", "(I)I"⟩
abbrev cX8_fill : ByteArray := prog_1_method_9_code
def yX8_fill : MethodName := ⟨RX8, "fill", "(I)Z"⟩
abbrev cX8_chip : ByteArray := prog_1_method_10_code
def yX8_chip : MethodName := ⟨RX8, "chip", "(IIZIIIII)I"⟩
abbrev cX8_need : ByteArray := prog_1_method_11_code
def yX8_need : MethodName := ⟨RX8, "need", "(III)Z"⟩
abbrev cX8_bad : ByteArray := prog_1_method_12_code
def yX8_bad : MethodName := ⟨RX8, "bad", "(IIZ)Z"⟩
abbrev cX8_contact : ByteArray := prog_1_method_13_code
def yX8_contact : MethodName := ⟨RX8, "contact", "(IIZ)Z"⟩
abbrev cX8_erase : ByteArray := prog_1_method_14_code
def yX8_erase : MethodName := ⟨RX8, "erase", "(I)I"⟩
abbrev cX8_chipOf : ByteArray := prog_1_method_15_code
def yX8_chipOf : MethodName := ⟨RX8, "chipOf", "(II)I"⟩
abbrev cX8_recipe : ByteArray := prog_1_method_16_code
def yX8_recipe : MethodName := ⟨RX8, "recipe", "(I)I"⟩
abbrev cX8_walk : ByteArray := prog_1_method_17_code
def yX8_walk : MethodName := ⟨RX8, "walk", "(II)I"⟩
abbrev cX8_why : ByteArray := prog_1_method_18_code
def yX8_why : MethodName := ⟨RX8, "why", "(IIIII)I"⟩
abbrev cX8_burn : ByteArray := prog_1_method_19_code
def yX8_burn : MethodName := ⟨RX8, "burn", "(IIIIII)I"⟩
abbrev cX8_wrong : ByteArray := prog_1_method_20_code
def yX8_wrong : MethodName := ⟨RX8, "wrong", "(III)I"⟩
abbrev cX8_read : ByteArray := prog_1_method_21_code
def yX8_read : MethodName := ⟨RX8, "read", "(IZII)I"⟩
abbrev cX8_about : ByteArray := prog_1_method_22_code
def yX8_about : MethodName := ⟨RX8, "about", "(I)I"⟩
abbrev cX8_isWithin : ByteArray := prog_1_method_23_code
def yX8_isWithin : MethodName := ⟨RX8, "isWithin", "(III)Z"⟩
abbrev cX8_isSize : ByteArray := prog_1_method_24_code
def yX8_isSize : MethodName := ⟨RX8, "isSize", "(I)Z"⟩
abbrev cX8_isPart : ByteArray := prog_1_method_25_code
def yX8_isPart : MethodName := ⟨RX8, "isPart", "(II)Z"⟩
abbrev cX8_chipAt : ByteArray := prog_1_method_26_code
def yX8_chipAt : MethodName := ⟨RX8, "chipAt", "(I)LChipBurner$Chip;"⟩
abbrev cX8_recipeAt : ByteArray := prog_1_method_27_code
def yX8_recipeAt : MethodName := ⟨RX8, "recipeAt", "(I)LChipBurner$Recipe;"⟩
abbrev cX8_reachOf : ByteArray := prog_1_method_28_code
def yX8_reachOf : MethodName := ⟨RX8, "reachOf", "(LChipBurner$Chip;II)I"⟩
abbrev cX8_hindrance : ByteArray := prog_1_method_29_code
def yX8_hindrance : MethodName := ⟨RX8, "hindrance", "(LChipBurner$Chip;LChipBurner$Recipe;III)I"⟩
def RX9 : String := "ChipBurnerModel"
def TX9 : u_T := fun k => match k with
  | 0 => ("ChipBurnerModel", "image", "[I", true)
  | 1 => ("ChipBurnerModel", "tape", "[I", true)
  | 2 => ("ChipBurnerModel", "taped", "I", false)
  | 3 => ("ChipBurnerModel", "fault", "I", false)
  | 4 => ("ChipBurnerModel", "faultPlace", "I", false)
  | 5 => ("ChipBurnerModel", "brought", "J", false)
  | 6 => ("ChipBurnerModel", "news", "[I", true)
  | 7 => ("ChipBurnerModel", "isNew", "[Z", true)
  | 8 => ("ChipBurnerModel", "newMany", "I", false)
  | 9 => ("ChipBurnerModel", "line", "[I", true)
  | 10 => ("ChipBurnerModel", "isEnd", "Z", false)
  | 11 => ("ChipBurnerModel", "sum", "I", false)
  | 12 => ("ChipBurnerModel", "chips", "I", false)
  | 13 => ("ChipBurnerModel", "size", "[I", true)
  | 14 => ("ChipBurnerModel", "id", "[I", true)
  | 15 => ("ChipBurnerModel", "erasable", "[Z", true)
  | 16 => ("ChipBurnerModel", "least", "[I", true)
  | 17 => ("ChipBurnerModel", "most", "[I", true)
  | 18 => ("ChipBurnerModel", "bears", "[I", true)
  | 19 => ("ChipBurnerModel", "extra", "[I", true)
  | 20 => ("ChipBurnerModel", "life", "[I", true)
  | 21 => ("ChipBurnerModel", "erased", "[I", true)
  | 22 => ("ChipBurnerModel", "made", "[J", true)
  | 23 => ("ChipBurnerModel", "low", "[I", true)
  | 24 => ("ChipBurnerModel", "high", "[I", true)
  | 25 => ("ChipBurnerModel", "need", "[I", true)
  | 26 => ("ChipBurnerModel", "count", "[I", true)
  | 27 => ("ChipBurnerModel", "data", "[I", true)
  | 28 => ("ChipBurnerModel", "isBad", "[Z", true)
  | 29 => ("ChipBurnerModel", "lacks", "[Z", true)
  | 30 => ("ChipBurnerModel", "orders", "[I", true)
  | 31 => ("ChipBurnerModel", "stepMany", "[I", true)
  | 32 => ("ChipBurnerModel", "what", "[I", true)
  | 33 => ("ChipBurnerModel", "number", "[I", true)
  | 34 => ("ChipBurnerModel", "place2", "[I", true)
  | 35 => ("ChipBurnerModel", "pulses", "[I", true)
  | 36 => ("ChipBurnerModel", "worked", "[I", true)
  | 37 => ("ChipBurnerModel", "at", "I", false)
  | 38 => ("ChipBurnerModel", "place", "I", false)
  | 39 => ("ChipBurnerModel", "token", "I", false)
  | 40 => ("ChipBurnerModel", "told", "I", false)
  | 41 => ("ChipBurnerModel", "open", "[I", true)
  | 42 => ("ChipBurnerModel", "part", "[I", true)
  | 43 => ("ChipBurnerModel", "outPulses", "[I", true)
  | 44 => ("ChipBurnerModel", "outWorked", "[I", true)
  | 45 => ("ChipBurnerModel", "okPulses", "[I", true)
  | 46 => ("ChipBurnerModel", "okWorked", "[I", true)
  | 47 => ("ChipBurnerModel", "opens", "I", false)
  | 48 => ("ChipBurnerModel", "sumPulses", "I", false)
  | 49 => ("ChipBurnerModel", "sumWorked", "I", false)
  | 50 => ("ChipBurnerModel", "written", "I", false)
  | 51 => ("ChipBurnerModel", "read", "I", false)
  | 52 => ("ChipBurnerModel", "come", "[I", true)
  | 53 => ("ChipBurnerModel", "isMore", "Z", false)
  | 54 => ("ChipBurnerModel", "times", "[I", true)
  | _ => ("ChipBurnerModel", "left", "I", false)
def tyX9 : Nat → FieldType := fun k => match k with
  | 0 => .array .int
  | 1 => .array .int
  | 2 => .int
  | 3 => .int
  | 4 => .int
  | 5 => .long
  | 6 => .array .int
  | 7 => .array .boolean
  | 8 => .int
  | 9 => .array .int
  | 10 => .boolean
  | 11 => .int
  | 12 => .int
  | 13 => .array .int
  | 14 => .array .int
  | 15 => .array .boolean
  | 16 => .array .int
  | 17 => .array .int
  | 18 => .array .int
  | 19 => .array .int
  | 20 => .array .int
  | 21 => .array .int
  | 22 => .array .long
  | 23 => .array .int
  | 24 => .array .int
  | 25 => .array .int
  | 26 => .array .int
  | 27 => .array .int
  | 28 => .array .boolean
  | 29 => .array .boolean
  | 30 => .array .int
  | 31 => .array .int
  | 32 => .array .int
  | 33 => .array .int
  | 34 => .array .int
  | 35 => .array .int
  | 36 => .array .int
  | 37 => .int
  | 38 => .int
  | 39 => .int
  | 40 => .int
  | 41 => .array .int
  | 42 => .array .int
  | 43 => .array .int
  | 44 => .array .int
  | 45 => .array .int
  | 46 => .array .int
  | 47 => .int
  | 48 => .int
  | 49 => .int
  | 50 => .int
  | 51 => .int
  | 52 => .array .int
  | 53 => .boolean
  | 54 => .array .int
  | _ => .int
abbrev wsX90 : List Cond := u_ws RX9 TX9 56
theorem nmX9 : ∀ a, a < 56 → ∀ b, b < 56 → a ≠ b → (TX9 a).2.1 ≠ (TX9 b).2.1 := by decide +kernel
theorem tyX9_ok : ∀ k, k < 56 → parseFieldDescriptor (TX9 k).2.2.1 = some (tyX9 k) := by decide +kernel
abbrev cX9_init : ByteArray := prog_11_method_1_code
def yX9_init : MethodName := ⟨RX9, "<init>", "()V"⟩
abbrev cX9_isIn : ByteArray := prog_11_method_2_code
def yX9_isIn : MethodName := ⟨RX9, "isIn", "(III)Z"⟩
abbrev cX9_four : ByteArray := prog_11_method_3_code
def yX9_four : MethodName := ⟨RX9, "four", "(I)V"⟩
abbrev cX9_feed : ByteArray := prog_11_method_4_code
def yX9_feed : MethodName := ⟨RX9, "feed", "(IIIII)I"⟩
abbrev cX9_end : ByteArray := prog_11_method_5_code
def yX9_end : MethodName := ⟨RX9, "end", "(I)I"⟩
abbrev cX9_tape : ByteArray := prog_11_method_6_code
def yX9_tape : MethodName := ⟨RX9, "tape", "(I)I"⟩
abbrev cX9_image : ByteArray := prog_11_method_7_code
def yX9_image : MethodName := ⟨RX9, "image", "(I)I"⟩
abbrev cX9_fill : ByteArray := prog_11_method_8_code
def yX9_fill : MethodName := ⟨RX9, "fill", "(I)Z"⟩
abbrev cX9_digitOf : ByteArray := prog_11_method_9_code
def yX9_digitOf : MethodName := ⟨RX9, "digitOf", "(I)I"⟩
abbrev cX9_bytes : ByteArray := prog_11_method_10_code
def yX9_bytes : MethodName := ⟨RX9, "bytes", "(II)I"⟩
abbrev cX9_put : ByteArray := prog_11_method_11_code
def yX9_put : MethodName := ⟨RX9, "put", "(II)V"⟩
abbrev cX9_sumOf : ByteArray := prog_11_method_12_code
def yX9_sumOf : MethodName := ⟨RX9, "sumOf", "(I)I"⟩
abbrev cX9_lineOne : ByteArray := prog_11_method_13_code
def yX9_lineOne : MethodName := ⟨RX9, "lineOne", "(II)I"⟩
abbrev cX9_lineTwo : ByteArray := prog_11_method_14_code
def yX9_lineTwo : MethodName := ⟨RX9, "lineTwo", "(II)I"⟩
abbrev cX9_data : ByteArray := prog_11_method_15_code
def yX9_data : MethodName := ⟨RX9, "data", "(III)I"⟩
abbrev cX9_readLines : ByteArray := prog_11_method_16_code
def yX9_readLines : MethodName := ⟨RX9, "readLines", "(I)I"⟩
abbrev cX9_readPlain : ByteArray := prog_11_method_17_code
def yX9_readPlain : MethodName := ⟨RX9, "readPlain", "()I"⟩
abbrev cX9_file : ByteArray := prog_11_method_18_code
def yX9_file : MethodName := ⟨RX9, "file", "(I)I"⟩
abbrev cX9_fault : ByteArray := prog_11_method_19_code
def yX9_fault : MethodName := ⟨RX9, "fault", "(I)I"⟩
abbrev cX9_writeSign : ByteArray := prog_11_method_20_code
def yX9_writeSign : MethodName := ⟨RX9, "writeSign", "(I)V"⟩
abbrev cX9_writeByte : ByteArray := prog_11_method_21_code
def yX9_writeByte : MethodName := ⟨RX9, "writeByte", "(I)V"⟩
abbrev cX9_writeLine : ByteArray := prog_11_method_22_code
def yX9_writeLine : MethodName := ⟨RX9, "writeLine", "(IIII)V"⟩
abbrev cX9_write : ByteArray := prog_11_method_23_code
def yX9_write : MethodName := ⟨RX9, "write", "(III)I"⟩
abbrev cX9_isChip : ByteArray := prog_11_method_24_code
def yX9_isChip : MethodName := ⟨RX9, "isChip", "(I)Z"⟩
abbrev cX9_chip : ByteArray := prog_11_method_25_code
def yX9_chip : MethodName := ⟨RX9, "chip", "(IIZIIIII)I"⟩
abbrev cX9_isAddress : ByteArray := prog_11_method_26_code
def yX9_isAddress : MethodName := ⟨RX9, "isAddress", "(II)Z"⟩
abbrev cX9_need : ByteArray := prog_11_method_27_code
def yX9_need : MethodName := ⟨RX9, "need", "(III)Z"⟩
abbrev cX9_bad : ByteArray := prog_11_method_28_code
def yX9_bad : MethodName := ⟨RX9, "bad", "(IIZ)Z"⟩
abbrev cX9_contact : ByteArray := prog_11_method_29_code
def yX9_contact : MethodName := ⟨RX9, "contact", "(IIZ)Z"⟩
abbrev cX9_erase : ByteArray := prog_11_method_30_code
def yX9_erase : MethodName := ⟨RX9, "erase", "(I)I"⟩
abbrev cX9_logicals : ByteArray := prog_11_method_31_code
def yX9_logicals : MethodName := ⟨RX9, "logicals", "(I)I"⟩
abbrev cX9_addressOf : ByteArray := prog_11_method_32_code
def yX9_addressOf : MethodName := ⟨RX9, "addressOf", "(II)I"⟩
abbrev cX9_lacking : ByteArray := prog_11_method_33_code
def yX9_lacking : MethodName := ⟨RX9, "lacking", "(I)I"⟩
abbrev cX9_chipOf : ByteArray := prog_11_method_34_code
def yX9_chipOf : MethodName := ⟨RX9, "chipOf", "(II)I"⟩
abbrev cX9_pulse : ByteArray := prog_11_method_35_code
def yX9_pulse : MethodName := ⟨RX9, "pulse", "(IIII)V"⟩
abbrev cX9_see : ByteArray := prog_11_method_36_code
def yX9_see : MethodName := ⟨RX9, "see", "(I)I"⟩
abbrev cX9_isLetter : ByteArray := prog_11_method_37_code
def yX9_isLetter : MethodName := ⟨RX9, "isLetter", "(I)Z"⟩
abbrev cX9_isDigit : ByteArray := prog_11_method_38_code
def yX9_isDigit : MethodName := ⟨RX9, "isDigit", "(I)Z"⟩
abbrev cX9_add : ByteArray := prog_11_method_39_code
def yX9_add : MethodName := ⟨RX9, "add", "(JII)J"⟩
abbrev cX9_wordOf : ByteArray := prog_11_method_40_code
def yX9_wordOf : MethodName := ⟨RX9, "wordOf", "(J)I"⟩
abbrev cX9_nextToken : ByteArray := prog_11_method_41_code
def yX9_nextToken : MethodName := ⟨RX9, "nextToken", "()V"⟩
abbrev cX9_order : ByteArray := prog_11_method_42_code
def yX9_order : MethodName := ⟨RX9, "order", "(III)I"⟩
abbrev cX9_lesser : ByteArray := prog_11_method_43_code
def yX9_lesser : MethodName := ⟨RX9, "lesser", "(II)I"⟩
abbrev cX9_begin : ByteArray := prog_11_method_44_code
def yX9_begin : MethodName := ⟨RX9, "begin", "(I)V"⟩
abbrev cX9_close : ByteArray := prog_11_method_45_code
def yX9_close : MethodName := ⟨RX9, "close", "(II)V"⟩
abbrev cX9_step : ByteArray := prog_11_method_46_code
def yX9_step : MethodName := ⟨RX9, "step", "()I"⟩
abbrev cX9_semicolon : ByteArray := prog_11_method_47_code
def yX9_semicolon : MethodName := ⟨RX9, "semicolon", "()I"⟩
abbrev cX9_brace : ByteArray := prog_11_method_48_code
def yX9_brace : MethodName := ⟨RX9, "brace", "()I"⟩
abbrev cX9_readRecipe : ByteArray := prog_11_method_49_code
def yX9_readRecipe : MethodName := ⟨RX9, "readRecipe", "()I"⟩
abbrev cX9_recipe : ByteArray := prog_11_method_50_code
def yX9_recipe : MethodName := ⟨RX9, "recipe", "(I)I"⟩
abbrev cX9_flow : ByteArray := prog_11_method_51_code
def yX9_flow : MethodName := ⟨RX9, "flow", "(II)V"⟩
abbrev cX9_mostVolts : ByteArray := prog_11_method_52_code
def yX9_mostVolts : MethodName := ⟨RX9, "mostVolts", "(I)I"⟩
abbrev cX9_flowFrom : ByteArray := prog_11_method_53_code
def yX9_flowFrom : MethodName := ⟨RX9, "flowFrom", "(II)V"⟩
abbrev cX9_walk : ByteArray := prog_11_method_54_code
def yX9_walk : MethodName := ⟨RX9, "walk", "(II)I"⟩
abbrev cX9_isFit : ByteArray := prog_11_method_55_code
def yX9_isFit : MethodName := ⟨RX9, "isFit", "(II)Z"⟩
abbrev cX9_last : ByteArray := prog_11_method_56_code
def yX9_last : MethodName := ⟨RX9, "last", "(III)I"⟩
abbrev cX9_isPart : ByteArray := prog_11_method_57_code
def yX9_isPart : MethodName := ⟨RX9, "isPart", "(II)Z"⟩
abbrev cX9_whyNot : ByteArray := prog_11_method_58_code
def yX9_whyNot : MethodName := ⟨RX9, "whyNot", "(IIIII)I"⟩
abbrev cX9_why : ByteArray := prog_11_method_59_code
def yX9_why : MethodName := ⟨RX9, "why", "(IIIII)I"⟩
abbrev cX9_isWrong : ByteArray := prog_11_method_60_code
def yX9_isWrong : MethodName := ⟨RX9, "isWrong", "(III)Z"⟩
abbrev cX9_work : ByteArray := prog_11_method_61_code
def yX9_work : MethodName := ⟨RX9, "work", "(IIII)V"⟩
abbrev cX9_burn : ByteArray := prog_11_method_62_code
def yX9_burn : MethodName := ⟨RX9, "burn", "(IIIIII)I"⟩
abbrev cX9_wrong : ByteArray := prog_11_method_63_code
def yX9_wrong : MethodName := ⟨RX9, "wrong", "(III)I"⟩
abbrev cX9_read : ByteArray := prog_11_method_64_code
def yX9_read : MethodName := ⟨RX9, "read", "(IZII)I"⟩
abbrev cX9_about : ByteArray := prog_11_method_65_code
def yX9_about : MethodName := ⟨RX9, "about", "(I)I"⟩
def RJ9 : String := "java/lang/Math"
def TJ9 : u_T := fun k => match k with
  | _ => ("", "", "", false)
def tyJ9 : Nat → FieldType := fun k => match k with
  | _ => .int
abbrev wsJ90 : List Cond := u_ws RJ9 TJ9 0
theorem nmJ9 : ∀ a, a < 0 → ∀ b, b < 0 → a ≠ b → (TJ9 a).2.1 ≠ (TJ9 b).2.1 := by decide +kernel
theorem tyJ9_ok : ∀ k, k < 0 → parseFieldDescriptor (TJ9 k).2.2.1 = some (tyJ9 k) := by decide +kernel
abbrev cJ9_max_7cf53 : ByteArray := prog_12_method_65_code
def yJ9_max_7cf53 : MethodName := ⟨RJ9, "max", "(II)I"⟩
abbrev cJ9_max_f86c9 : ByteArray := prog_12_method_66_code
def yJ9_max_f86c9 : MethodName := ⟨RJ9, "max", "(JJ)J"⟩
abbrev cJ9_min_7cf53 : ByteArray := prog_12_method_69_code
def yJ9_min_7cf53 : MethodName := ⟨RJ9, "min", "(II)I"⟩
abbrev cJ9_min_f86c9 : ByteArray := prog_12_method_70_code
def yJ9_min_f86c9 : MethodName := ⟨RJ9, "min", "(JJ)J"⟩
def RJ0 : String := "java/lang/String"
def TJ0 : u_T := fun k => match k with
  | _ => ("", "", "", false)
def tyJ0 : Nat → FieldType := fun k => match k with
  | _ => .int
abbrev wsJ00 : List Cond := u_ws RJ0 TJ0 0
theorem nmJ0 : ∀ a, a < 0 → ∀ b, b < 0 → a ≠ b → (TJ0 a).2.1 ≠ (TJ0 b).2.1 := by decide +kernel
theorem tyJ0_ok : ∀ k, k < 0 → parseFieldDescriptor (TJ0 k).2.2.1 = some (tyJ0 k) := by decide +kernel
abbrev cJ0_length_8abf5 : ByteArray := prog_13_method_54_code
def yJ0_length_8abf5 : MethodName := ⟨RJ0, "length", "()I"⟩
abbrev cJ0_charAt_5068e : ByteArray := prog_13_method_56_code
def yJ0_charAt_5068e : MethodName := ⟨RJ0, "charAt", "(I)C"⟩
abbrev cJ0_coder_7d493 : ByteArray := prog_13_method_152_code
def yJ0_coder_7d493 : MethodName := ⟨RJ0, "coder", "()B"⟩
abbrev cJ0_isLatin1_aae02 : ByteArray := prog_13_method_154_code
def yJ0_isLatin1_aae02 : MethodName := ⟨RJ0, "isLatin1", "()Z"⟩
abbrev cJ0_checkIndex_df160 : ByteArray := prog_13_method_155_code
def yJ0_checkIndex_df160 : MethodName := ⟨RJ0, "checkIndex", "(II)V"⟩
def RJ1 : String := "java/lang/StringLatin1"
def TJ1 : u_T := fun k => match k with
  | _ => ("", "", "", false)
def tyJ1 : Nat → FieldType := fun k => match k with
  | _ => .int
abbrev wsJ10 : List Cond := u_ws RJ1 TJ1 0
theorem nmJ1 : ∀ a, a < 0 → ∀ b, b < 0 → a ≠ b → (TJ1 a).2.1 ≠ (TJ1 b).2.1 := by decide +kernel
theorem tyJ1_ok : ∀ k, k < 0 → parseFieldDescriptor (TJ1 k).2.2.1 = some (tyJ1 k) := by decide +kernel
abbrev cJ1_charAt_3b067 : ByteArray := prog_14_method_2_code
def yJ1_charAt_3b067 : MethodName := ⟨RJ1, "charAt", "([BI)C"⟩
def RJ2 : String := "java/lang/StringUTF16"
def TJ2 : u_T := fun k => match k with
  | _ => ("", "", "", false)
def tyJ2 : Nat → FieldType := fun k => match k with
  | _ => .int
abbrev wsJ20 : List Cond := u_ws RJ2 TJ2 0
theorem nmJ2 : ∀ a, a < 0 → ∀ b, b < 0 → a ≠ b → (TJ2 a).2.1 ≠ (TJ2 b).2.1 := by decide +kernel
theorem tyJ2_ok : ∀ k, k < 0 → parseFieldDescriptor (TJ2 k).2.2.1 = some (tyJ2 k) := by decide +kernel
abbrev cJ2_getChar_3b067 : ByteArray := prog_15_method_5_code
def yJ2_getChar_3b067 : MethodName := ⟨RJ2, "getChar", "([BI)C"⟩
abbrev cJ2_length_9d52b : ByteArray := prog_15_method_6_code
def yJ2_length_9d52b : MethodName := ⟨RJ2, "length", "([B)I"⟩
abbrev cJ2_charAt_3b067 : ByteArray := prog_15_method_83_code
def yJ2_charAt_3b067 : MethodName := ⟨RJ2, "charAt", "([BI)C"⟩
abbrev cJ2_checkIndex_2214a : ByteArray := prog_15_method_91_code
def yJ2_checkIndex_2214a : MethodName := ⟨RJ2, "checkIndex", "(I[B)V"⟩
def RJ10 : String := "java/lang/System"
def TJ10 : u_T := fun k => match k with
  | _ => ("", "", "", false)
def tyJ10 : Nat → FieldType := fun k => match k with
  | _ => .int
abbrev wsJ100 : List Cond := u_ws RJ10 TJ10 0
theorem nmJ10 : ∀ a, a < 0 → ∀ b, b < 0 → a ≠ b → (TJ10 a).2.1 ≠ (TJ10 b).2.1 := by decide +kernel
theorem tyJ10_ok : ∀ k, k < 0 → parseFieldDescriptor (TJ10 k).2.2.1 = some (tyJ10 k) := by decide +kernel
def RJ7 : String := "java/util/Arrays"
def TJ7 : u_T := fun k => match k with
  | _ => ("", "", "", false)
def tyJ7 : Nat → FieldType := fun k => match k with
  | _ => .int
abbrev wsJ70 : List Cond := u_ws RJ7 TJ7 0
theorem nmJ7 : ∀ a, a < 0 → ∀ b, b < 0 → a ≠ b → (TJ7 a).2.1 ≠ (TJ7 b).2.1 := by decide +kernel
theorem tyJ7_ok : ∀ k, k < 0 → parseFieldDescriptor (TJ7 k).2.2.1 = some (tyJ7 k) := by decide +kernel
abbrev cJ7_fill_53178 : ByteArray := prog_17_method_103_code
def yJ7_fill_53178 : MethodName := ⟨RJ7, "fill", "([II)V"⟩
def RJ3 : String := "jdk/internal/util/Preconditions"
def TJ3 : u_T := fun k => match k with
  | _ => ("", "", "", false)
def tyJ3 : Nat → FieldType := fun k => match k with
  | _ => .int
abbrev wsJ30 : List Cond := u_ws RJ3 TJ3 0
theorem nmJ3 : ∀ a, a < 0 → ∀ b, b < 0 → a ≠ b → (TJ3 a).2.1 ≠ (TJ3 b).2.1 := by decide +kernel
theorem tyJ3_ok : ∀ k, k < 0 → parseFieldDescriptor (TJ3 k).2.2.1 = some (tyJ3 k) := by decide +kernel
abbrev cJ3_checkIndex_8e157 : ByteArray := prog_18_method_11_code
def yJ3_checkIndex_8e157 : MethodName := ⟨RJ3, "checkIndex", "(IILjava/util/function/BiFunction;)I"⟩
def RL : String := "ChipBurnerLaw"
abbrev cL_law : ByteArray := code
def yL_law : MethodName := ⟨RL, "law", "([I)Z"⟩
abbrev vwCl : List vw_C := [(RX0, TX0, 17), (RX1, TX1, 2), (RX2, TX2, 9), (RX3, TX3, 2), (RX4, TX4, 8), (RX5, TX5, 8), (RX6, TX6, 2), (RX7, TX7, 7), (RX8, TX8, 11), (RX9, TX9, 56)]
end
section
theorem dJ9_max_7cf53_0 : decode cJ9_max_7cf53 0 = .ok (.iload_n 0, 1) := by decide +kernel
theorem dJ9_max_7cf53_1 : decode cJ9_max_7cf53 1 = .ok (.iload_n 1, 1) := by decide +kernel
theorem dJ9_max_7cf53_2 : decode cJ9_max_7cf53 2 = .ok (.if_icmp .lt 7, 3) := by decide +kernel
theorem dJ9_max_7cf53_5 : decode cJ9_max_7cf53 5 = .ok (.iload_n 0, 1) := by decide +kernel
theorem dJ9_max_7cf53_6 : decode cJ9_max_7cf53 6 = .ok (.goto 4, 3) := by decide +kernel
theorem dJ9_max_7cf53_9 : decode cJ9_max_7cf53 9 = .ok (.iload_n 1, 1) := by decide +kernel
theorem dJ9_max_7cf53_10 : decode cJ9_max_7cf53 10 = .ok (.ireturn, 1) := by decide +kernel
theorem dJ9_max_f86c9_0 : decode cJ9_max_f86c9 0 = .ok (.lload_n 0, 1) := by decide +kernel
theorem dJ9_max_f86c9_1 : decode cJ9_max_f86c9 1 = .ok (.lload_n 2, 1) := by decide +kernel
theorem dJ9_max_f86c9_2 : decode cJ9_max_f86c9 2 = .ok (.lcmp, 1) := by decide +kernel
theorem dJ9_max_f86c9_3 : decode cJ9_max_f86c9 3 = .ok (.ifCond .lt 7, 3) := by decide +kernel
theorem dJ9_max_f86c9_6 : decode cJ9_max_f86c9 6 = .ok (.lload_n 0, 1) := by decide +kernel
theorem dJ9_max_f86c9_7 : decode cJ9_max_f86c9 7 = .ok (.goto 4, 3) := by decide +kernel
theorem dJ9_max_f86c9_10 : decode cJ9_max_f86c9 10 = .ok (.lload_n 2, 1) := by decide +kernel
theorem dJ9_max_f86c9_11 : decode cJ9_max_f86c9 11 = .ok (.lreturn, 1) := by decide +kernel
theorem dJ9_min_7cf53_0 : decode cJ9_min_7cf53 0 = .ok (.iload_n 0, 1) := by decide +kernel
theorem dJ9_min_7cf53_1 : decode cJ9_min_7cf53 1 = .ok (.iload_n 1, 1) := by decide +kernel
theorem dJ9_min_7cf53_2 : decode cJ9_min_7cf53 2 = .ok (.if_icmp .gt 7, 3) := by decide +kernel
theorem dJ9_min_7cf53_5 : decode cJ9_min_7cf53 5 = .ok (.iload_n 0, 1) := by decide +kernel
theorem dJ9_min_7cf53_6 : decode cJ9_min_7cf53 6 = .ok (.goto 4, 3) := by decide +kernel
theorem dJ9_min_7cf53_9 : decode cJ9_min_7cf53 9 = .ok (.iload_n 1, 1) := by decide +kernel
theorem dJ9_min_7cf53_10 : decode cJ9_min_7cf53 10 = .ok (.ireturn, 1) := by decide +kernel
theorem dJ9_min_f86c9_0 : decode cJ9_min_f86c9 0 = .ok (.lload_n 0, 1) := by decide +kernel
theorem dJ9_min_f86c9_1 : decode cJ9_min_f86c9 1 = .ok (.lload_n 2, 1) := by decide +kernel
theorem dJ9_min_f86c9_2 : decode cJ9_min_f86c9 2 = .ok (.lcmp, 1) := by decide +kernel
theorem dJ9_min_f86c9_3 : decode cJ9_min_f86c9 3 = .ok (.ifCond .gt 7, 3) := by decide +kernel
theorem dJ9_min_f86c9_6 : decode cJ9_min_f86c9 6 = .ok (.lload_n 0, 1) := by decide +kernel
theorem dJ9_min_f86c9_7 : decode cJ9_min_f86c9 7 = .ok (.goto 4, 3) := by decide +kernel
theorem dJ9_min_f86c9_10 : decode cJ9_min_f86c9 10 = .ok (.lload_n 2, 1) := by decide +kernel
theorem dJ9_min_f86c9_11 : decode cJ9_min_f86c9 11 = .ok (.lreturn, 1) := by decide +kernel
theorem dJ0_length_8abf5_0 : decode cJ0_length_8abf5 0 = .ok (.aload_n 0, 1) := by decide +kernel
theorem dJ0_length_8abf5_1 : decode cJ0_length_8abf5 1 = .ok (.getfield 9, 3) := by decide +kernel
theorem dJ0_length_8abf5_4 : decode cJ0_length_8abf5 4 = .ok (.arraylength, 1) := by decide +kernel
theorem dJ0_length_8abf5_5 : decode cJ0_length_8abf5 5 = .ok (.aload_n 0, 1) := by decide +kernel
theorem dJ0_length_8abf5_6 : decode cJ0_length_8abf5 6 = .ok (.invokevirtual 335, 3) := by decide +kernel
theorem dJ0_length_8abf5_9 : decode cJ0_length_8abf5 9 = .ok (.ishr, 1) := by decide +kernel
theorem dJ0_length_8abf5_10 : decode cJ0_length_8abf5 10 = .ok (.ireturn, 1) := by decide +kernel
theorem dJ0_charAt_5068e_0 : decode cJ0_charAt_5068e 0 = .ok (.aload_n 0, 1) := by decide +kernel
theorem dJ0_charAt_5068e_1 : decode cJ0_charAt_5068e 1 = .ok (.invokevirtual 492, 3) := by decide +kernel
theorem dJ0_charAt_5068e_4 : decode cJ0_charAt_5068e 4 = .ok (.ifCond .eq 12, 3) := by decide +kernel
theorem dJ0_charAt_5068e_7 : decode cJ0_charAt_5068e 7 = .ok (.aload_n 0, 1) := by decide +kernel
theorem dJ0_charAt_5068e_8 : decode cJ0_charAt_5068e 8 = .ok (.getfield 9, 3) := by decide +kernel
theorem dJ0_charAt_5068e_11 : decode cJ0_charAt_5068e 11 = .ok (.iload_n 1, 1) := by decide +kernel
theorem dJ0_charAt_5068e_12 : decode cJ0_charAt_5068e 12 = .ok (.invokestatic 495, 3) := by decide +kernel
theorem dJ0_charAt_5068e_15 : decode cJ0_charAt_5068e 15 = .ok (.ireturn, 1) := by decide +kernel
theorem dJ0_charAt_5068e_16 : decode cJ0_charAt_5068e 16 = .ok (.aload_n 0, 1) := by decide +kernel
theorem dJ0_charAt_5068e_17 : decode cJ0_charAt_5068e 17 = .ok (.getfield 9, 3) := by decide +kernel
theorem dJ0_charAt_5068e_20 : decode cJ0_charAt_5068e 20 = .ok (.iload_n 1, 1) := by decide +kernel
theorem dJ0_charAt_5068e_21 : decode cJ0_charAt_5068e 21 = .ok (.invokestatic 498, 3) := by decide +kernel
theorem dJ0_charAt_5068e_24 : decode cJ0_charAt_5068e 24 = .ok (.ireturn, 1) := by decide +kernel
theorem dJ0_coder_7d493_0 : decode cJ0_coder_7d493 0 = .ok (.getstatic 38, 3) := by decide +kernel
theorem dJ0_coder_7d493_3 : decode cJ0_coder_7d493 3 = .ok (.ifCond .eq 10, 3) := by decide +kernel
theorem dJ0_coder_7d493_6 : decode cJ0_coder_7d493 6 = .ok (.aload_n 0, 1) := by decide +kernel
theorem dJ0_coder_7d493_7 : decode cJ0_coder_7d493 7 = .ok (.getfield 15, 3) := by decide +kernel
theorem dJ0_coder_7d493_10 : decode cJ0_coder_7d493 10 = .ok (.goto 4, 3) := by decide +kernel
theorem dJ0_coder_7d493_13 : decode cJ0_coder_7d493 13 = .ok (.iconst 1, 1) := by decide +kernel
theorem dJ0_coder_7d493_14 : decode cJ0_coder_7d493 14 = .ok (.ireturn, 1) := by decide +kernel
theorem dJ0_isLatin1_aae02_0 : decode cJ0_isLatin1_aae02 0 = .ok (.getstatic 38, 3) := by decide +kernel
theorem dJ0_isLatin1_aae02_3 : decode cJ0_isLatin1_aae02 3 = .ok (.ifCond .eq 14, 3) := by decide +kernel
theorem dJ0_isLatin1_aae02_6 : decode cJ0_isLatin1_aae02 6 = .ok (.aload_n 0, 1) := by decide +kernel
theorem dJ0_isLatin1_aae02_7 : decode cJ0_isLatin1_aae02 7 = .ok (.getfield 15, 3) := by decide +kernel
theorem dJ0_isLatin1_aae02_10 : decode cJ0_isLatin1_aae02 10 = .ok (.ifCond .ne 7, 3) := by decide +kernel
theorem dJ0_isLatin1_aae02_13 : decode cJ0_isLatin1_aae02 13 = .ok (.iconst 1, 1) := by decide +kernel
theorem dJ0_isLatin1_aae02_14 : decode cJ0_isLatin1_aae02 14 = .ok (.goto 4, 3) := by decide +kernel
theorem dJ0_isLatin1_aae02_17 : decode cJ0_isLatin1_aae02 17 = .ok (.iconst 0, 1) := by decide +kernel
theorem dJ0_isLatin1_aae02_18 : decode cJ0_isLatin1_aae02 18 = .ok (.ireturn, 1) := by decide +kernel
theorem dJ0_checkIndex_df160_0 : decode cJ0_checkIndex_df160 0 = .ok (.iload_n 0, 1) := by decide +kernel
theorem dJ0_checkIndex_df160_1 : decode cJ0_checkIndex_df160 1 = .ok (.iload_n 1, 1) := by decide +kernel
theorem dJ0_checkIndex_df160_2 : decode cJ0_checkIndex_df160 2 = .ok (.getstatic 1053, 3) := by decide +kernel
theorem dJ0_checkIndex_df160_5 : decode cJ0_checkIndex_df160 5 = .ok (.invokestatic 1059, 3) := by decide +kernel
theorem dJ0_checkIndex_df160_8 : decode cJ0_checkIndex_df160 8 = .ok (.pop, 1) := by decide +kernel
theorem dJ0_checkIndex_df160_9 : decode cJ0_checkIndex_df160 9 = .ok (.return_, 1) := by decide +kernel
theorem dJ1_charAt_3b067_0 : decode cJ1_charAt_3b067 0 = .ok (.iload_n 1, 1) := by decide +kernel
theorem dJ1_charAt_3b067_1 : decode cJ1_charAt_3b067 1 = .ok (.aload_n 0, 1) := by decide +kernel
theorem dJ1_charAt_3b067_2 : decode cJ1_charAt_3b067 2 = .ok (.arraylength, 1) := by decide +kernel
theorem dJ1_charAt_3b067_3 : decode cJ1_charAt_3b067 3 = .ok (.invokestatic 9, 3) := by decide +kernel
theorem dJ1_charAt_3b067_6 : decode cJ1_charAt_3b067 6 = .ok (.aload_n 0, 1) := by decide +kernel
theorem dJ1_charAt_3b067_7 : decode cJ1_charAt_3b067 7 = .ok (.iload_n 1, 1) := by decide +kernel
theorem dJ1_charAt_3b067_8 : decode cJ1_charAt_3b067 8 = .ok (.baload, 1) := by decide +kernel
theorem dJ1_charAt_3b067_9 : decode cJ1_charAt_3b067 9 = .ok (.sipush 255, 3) := by decide +kernel
theorem dJ1_charAt_3b067_12 : decode cJ1_charAt_3b067 12 = .ok (.iand, 1) := by decide +kernel
theorem dJ1_charAt_3b067_13 : decode cJ1_charAt_3b067 13 = .ok (.i2c, 1) := by decide +kernel
theorem dJ1_charAt_3b067_14 : decode cJ1_charAt_3b067 14 = .ok (.ireturn, 1) := by decide +kernel
theorem dJ2_getChar_3b067_0 : decode cJ2_getChar_3b067 0 = .ok (.getstatic 44, 3) := by decide +kernel
theorem dJ2_getChar_3b067_3 : decode cJ2_getChar_3b067 3 = .ok (.ifCond .ne 25, 3) := by decide +kernel
theorem dJ2_getChar_3b067_6 : decode cJ2_getChar_3b067 6 = .ok (.iload_n 1, 1) := by decide +kernel
theorem dJ2_getChar_3b067_7 : decode cJ2_getChar_3b067 7 = .ok (.ifCond .lt 11, 3) := by decide +kernel
theorem dJ2_getChar_3b067_10 : decode cJ2_getChar_3b067 10 = .ok (.iload_n 1, 1) := by decide +kernel
theorem dJ2_getChar_3b067_11 : decode cJ2_getChar_3b067 11 = .ok (.aload_n 0, 1) := by decide +kernel
theorem dJ2_getChar_3b067_12 : decode cJ2_getChar_3b067 12 = .ok (.invokestatic 48, 3) := by decide +kernel
theorem dJ2_getChar_3b067_15 : decode cJ2_getChar_3b067 15 = .ok (.if_icmp .lt 13, 3) := by decide +kernel
theorem dJ2_getChar_3b067_18 : decode cJ2_getChar_3b067 18 = .ok (.new 52, 3) := by decide +kernel
theorem dJ2_getChar_3b067_21 : decode cJ2_getChar_3b067 21 = .ok (.dup, 1) := by decide +kernel
theorem dJ2_getChar_3b067_22 : decode cJ2_getChar_3b067 22 = .ok (.ldc 54, 2) := by decide +kernel
theorem dJ2_getChar_3b067_24 : decode cJ2_getChar_3b067 24 = .ok (.invokespecial 56, 3) := by decide +kernel
theorem dJ2_getChar_3b067_27 : decode cJ2_getChar_3b067 27 = .ok (.athrow, 1) := by decide +kernel
theorem dJ2_getChar_3b067_28 : decode cJ2_getChar_3b067 28 = .ok (.iload_n 1, 1) := by decide +kernel
theorem dJ2_getChar_3b067_29 : decode cJ2_getChar_3b067 29 = .ok (.iconst 1, 1) := by decide +kernel
theorem dJ2_getChar_3b067_30 : decode cJ2_getChar_3b067 30 = .ok (.ishl, 1) := by decide +kernel
theorem dJ2_getChar_3b067_31 : decode cJ2_getChar_3b067 31 = .ok (.istore_n 1, 1) := by decide +kernel
theorem dJ2_getChar_3b067_32 : decode cJ2_getChar_3b067 32 = .ok (.aload_n 0, 1) := by decide +kernel
theorem dJ2_getChar_3b067_33 : decode cJ2_getChar_3b067 33 = .ok (.iload_n 1, 1) := by decide +kernel
theorem dJ2_getChar_3b067_34 : decode cJ2_getChar_3b067 34 = .ok (.iinc 1 1, 3) := by decide +kernel
theorem dJ2_getChar_3b067_37 : decode cJ2_getChar_3b067 37 = .ok (.baload, 1) := by decide +kernel
theorem dJ2_getChar_3b067_38 : decode cJ2_getChar_3b067 38 = .ok (.sipush 255, 3) := by decide +kernel
theorem dJ2_getChar_3b067_41 : decode cJ2_getChar_3b067 41 = .ok (.iand, 1) := by decide +kernel
theorem dJ2_getChar_3b067_42 : decode cJ2_getChar_3b067 42 = .ok (.getstatic 59, 3) := by decide +kernel
theorem dJ2_getChar_3b067_45 : decode cJ2_getChar_3b067 45 = .ok (.ishl, 1) := by decide +kernel
theorem dJ2_getChar_3b067_46 : decode cJ2_getChar_3b067 46 = .ok (.aload_n 0, 1) := by decide +kernel
theorem dJ2_getChar_3b067_47 : decode cJ2_getChar_3b067 47 = .ok (.iload_n 1, 1) := by decide +kernel
theorem dJ2_getChar_3b067_48 : decode cJ2_getChar_3b067 48 = .ok (.baload, 1) := by decide +kernel
theorem dJ2_getChar_3b067_49 : decode cJ2_getChar_3b067 49 = .ok (.sipush 255, 3) := by decide +kernel
theorem dJ2_getChar_3b067_52 : decode cJ2_getChar_3b067 52 = .ok (.iand, 1) := by decide +kernel
theorem dJ2_getChar_3b067_53 : decode cJ2_getChar_3b067 53 = .ok (.getstatic 63, 3) := by decide +kernel
theorem dJ2_getChar_3b067_56 : decode cJ2_getChar_3b067 56 = .ok (.ishl, 1) := by decide +kernel
theorem dJ2_getChar_3b067_57 : decode cJ2_getChar_3b067 57 = .ok (.ior, 1) := by decide +kernel
theorem dJ2_getChar_3b067_58 : decode cJ2_getChar_3b067 58 = .ok (.i2c, 1) := by decide +kernel
theorem dJ2_getChar_3b067_59 : decode cJ2_getChar_3b067 59 = .ok (.ireturn, 1) := by decide +kernel
theorem dJ2_length_9d52b_0 : decode cJ2_length_9d52b 0 = .ok (.aload_n 0, 1) := by decide +kernel
theorem dJ2_length_9d52b_1 : decode cJ2_length_9d52b 1 = .ok (.arraylength, 1) := by decide +kernel
theorem dJ2_length_9d52b_2 : decode cJ2_length_9d52b 2 = .ok (.iconst 1, 1) := by decide +kernel
theorem dJ2_length_9d52b_3 : decode cJ2_length_9d52b 3 = .ok (.ishr, 1) := by decide +kernel
theorem dJ2_length_9d52b_4 : decode cJ2_length_9d52b 4 = .ok (.ireturn, 1) := by decide +kernel
theorem dJ2_charAt_3b067_0 : decode cJ2_charAt_3b067 0 = .ok (.iload_n 1, 1) := by decide +kernel
theorem dJ2_charAt_3b067_1 : decode cJ2_charAt_3b067 1 = .ok (.aload_n 0, 1) := by decide +kernel
theorem dJ2_charAt_3b067_2 : decode cJ2_charAt_3b067 2 = .ok (.invokestatic 67, 3) := by decide +kernel
theorem dJ2_charAt_3b067_5 : decode cJ2_charAt_3b067 5 = .ok (.aload_n 0, 1) := by decide +kernel
theorem dJ2_charAt_3b067_6 : decode cJ2_charAt_3b067 6 = .ok (.iload_n 1, 1) := by decide +kernel
theorem dJ2_charAt_3b067_7 : decode cJ2_charAt_3b067 7 = .ok (.invokestatic 71, 3) := by decide +kernel
theorem dJ2_charAt_3b067_10 : decode cJ2_charAt_3b067 10 = .ok (.ireturn, 1) := by decide +kernel
theorem dJ2_checkIndex_2214a_0 : decode cJ2_checkIndex_2214a 0 = .ok (.iload_n 0, 1) := by decide +kernel
theorem dJ2_checkIndex_2214a_1 : decode cJ2_checkIndex_2214a 1 = .ok (.aload_n 1, 1) := by decide +kernel
theorem dJ2_checkIndex_2214a_2 : decode cJ2_checkIndex_2214a 2 = .ok (.invokestatic 48, 3) := by decide +kernel
theorem dJ2_checkIndex_2214a_5 : decode cJ2_checkIndex_2214a 5 = .ok (.invokestatic 414, 3) := by decide +kernel
theorem dJ2_checkIndex_2214a_8 : decode cJ2_checkIndex_2214a 8 = .ok (.return_, 1) := by decide +kernel
theorem dJ7_fill_53178_0 : decode cJ7_fill_53178 0 = .ok (.iconst 0, 1) := by decide +kernel
theorem dJ7_fill_53178_1 : decode cJ7_fill_53178 1 = .ok (.istore_n 2, 1) := by decide +kernel
theorem dJ7_fill_53178_2 : decode cJ7_fill_53178 2 = .ok (.aload_n 0, 1) := by decide +kernel
theorem dJ7_fill_53178_3 : decode cJ7_fill_53178 3 = .ok (.arraylength, 1) := by decide +kernel
theorem dJ7_fill_53178_4 : decode cJ7_fill_53178 4 = .ok (.istore_n 3, 1) := by decide +kernel
theorem dJ7_fill_53178_5 : decode cJ7_fill_53178 5 = .ok (.iload_n 2, 1) := by decide +kernel
theorem dJ7_fill_53178_6 : decode cJ7_fill_53178 6 = .ok (.iload_n 3, 1) := by decide +kernel
theorem dJ7_fill_53178_7 : decode cJ7_fill_53178 7 = .ok (.if_icmp .ge 13, 3) := by decide +kernel
theorem dJ7_fill_53178_10 : decode cJ7_fill_53178 10 = .ok (.aload_n 0, 1) := by decide +kernel
theorem dJ7_fill_53178_11 : decode cJ7_fill_53178 11 = .ok (.iload_n 2, 1) := by decide +kernel
theorem dJ7_fill_53178_12 : decode cJ7_fill_53178 12 = .ok (.iload_n 1, 1) := by decide +kernel
theorem dJ7_fill_53178_13 : decode cJ7_fill_53178 13 = .ok (.iastore, 1) := by decide +kernel
theorem dJ7_fill_53178_14 : decode cJ7_fill_53178 14 = .ok (.iinc 2 1, 3) := by decide +kernel
theorem dJ7_fill_53178_17 : decode cJ7_fill_53178 17 = .ok (.goto (-12), 3) := by decide +kernel
theorem dJ7_fill_53178_20 : decode cJ7_fill_53178 20 = .ok (.return_, 1) := by decide +kernel
theorem dJ3_checkIndex_8e157_0 : decode cJ3_checkIndex_8e157 0 = .ok (.iload_n 0, 1) := by decide +kernel
theorem dJ3_checkIndex_8e157_1 : decode cJ3_checkIndex_8e157 1 = .ok (.ifCond .lt 8, 3) := by decide +kernel
theorem dJ3_checkIndex_8e157_4 : decode cJ3_checkIndex_8e157 4 = .ok (.iload_n 0, 1) := by decide +kernel
theorem dJ3_checkIndex_8e157_5 : decode cJ3_checkIndex_8e157 5 = .ok (.iload_n 1, 1) := by decide +kernel
theorem dJ3_checkIndex_8e157_6 : decode cJ3_checkIndex_8e157 6 = .ok (.if_icmp .lt 10, 3) := by decide +kernel
theorem dJ3_checkIndex_8e157_9 : decode cJ3_checkIndex_8e157 9 = .ok (.aload_n 2, 1) := by decide +kernel
theorem dJ3_checkIndex_8e157_10 : decode cJ3_checkIndex_8e157 10 = .ok (.iload_n 0, 1) := by decide +kernel
theorem dJ3_checkIndex_8e157_11 : decode cJ3_checkIndex_8e157 11 = .ok (.iload_n 1, 1) := by decide +kernel
theorem dJ3_checkIndex_8e157_12 : decode cJ3_checkIndex_8e157 12 = .ok (.invokestatic 95, 3) := by decide +kernel
theorem dJ3_checkIndex_8e157_15 : decode cJ3_checkIndex_8e157 15 = .ok (.athrow, 1) := by decide +kernel
theorem dJ3_checkIndex_8e157_16 : decode cJ3_checkIndex_8e157 16 = .ok (.iload_n 0, 1) := by decide +kernel
theorem dJ3_checkIndex_8e157_17 : decode cJ3_checkIndex_8e157 17 = .ok (.ireturn, 1) := by decide +kernel
theorem dX0_init_0 : decode cX0_init 0 = .ok (.aload_n 0, 1) := by decide +kernel
theorem dX0_init_1 : decode cX0_init 1 = .ok (.invokespecial 3, 3) := by decide +kernel
theorem dX0_init_4 : decode cX0_init 4 = .ok (.aload_n 0, 1) := by decide +kernel
theorem dX0_init_5 : decode cX0_init 5 = .ok (.bipush 8, 2) := by decide +kernel
theorem dX0_init_7 : decode cX0_init 7 = .ok (.newarray .boolean, 2) := by decide +kernel
theorem dX0_init_9 : decode cX0_init 9 = .ok (.putfield 9, 3) := by decide +kernel
theorem dX0_init_12 : decode cX0_init 12 = .ok (.aload_n 0, 1) := by decide +kernel
theorem dX0_init_13 : decode cX0_init 13 = .ok (.bipush 28, 2) := by decide +kernel
theorem dX0_init_15 : decode cX0_init 15 = .ok (.newarray .boolean, 2) := by decide +kernel
theorem dX0_init_17 : decode cX0_init 17 = .ok (.putfield 15, 3) := by decide +kernel
theorem dX0_init_20 : decode cX0_init 20 = .ok (.aload_n 0, 1) := by decide +kernel
theorem dX0_init_21 : decode cX0_init 21 = .ok (.iload_n 1, 1) := by decide +kernel
theorem dX0_init_22 : decode cX0_init 22 = .ok (.invokestatic 18, 3) := by decide +kernel
theorem dX0_init_25 : decode cX0_init 25 = .ok (.ifCond .eq 7, 3) := by decide +kernel
theorem dX0_init_28 : decode cX0_init 28 = .ok (.iload_n 1, 1) := by decide +kernel
theorem dX0_init_29 : decode cX0_init 29 = .ok (.goto 5, 3) := by decide +kernel
theorem dX0_init_32 : decode cX0_init 32 = .ok (.bipush 8, 2) := by decide +kernel
theorem dX0_init_34 : decode cX0_init 34 = .ok (.putfield 22, 3) := by decide +kernel
theorem dX0_init_37 : decode cX0_init 37 = .ok (.aload_n 0, 1) := by decide +kernel
theorem dX0_init_38 : decode cX0_init 38 = .ok (.iload_n 2, 1) := by decide +kernel
theorem dX0_init_39 : decode cX0_init 39 = .ok (.putfield 26, 3) := by decide +kernel
theorem dX0_init_42 : decode cX0_init 42 = .ok (.aload_n 0, 1) := by decide +kernel
theorem dX0_init_43 : decode cX0_init 43 = .ok (.iload_n 3, 1) := by decide +kernel
theorem dX0_init_44 : decode cX0_init 44 = .ok (.putfield 29, 3) := by decide +kernel
theorem dX0_init_47 : decode cX0_init 47 = .ok (.aload_n 0, 1) := by decide +kernel
theorem dX0_init_48 : decode cX0_init 48 = .ok (.aload_n 0, 1) := by decide +kernel
theorem dX0_init_49 : decode cX0_init 49 = .ok (.getfield 22, 3) := by decide +kernel
theorem dX0_init_52 : decode cX0_init 52 = .ok (.newarray .int, 2) := by decide +kernel
theorem dX0_init_54 : decode cX0_init 54 = .ok (.putfield 33, 3) := by decide +kernel
theorem dX0_init_57 : decode cX0_init 57 = .ok (.aload_n 0, 1) := by decide +kernel
theorem dX0_init_58 : decode cX0_init 58 = .ok (.aload_n 0, 1) := by decide +kernel
theorem dX0_init_59 : decode cX0_init 59 = .ok (.getfield 22, 3) := by decide +kernel
theorem dX0_init_62 : decode cX0_init 62 = .ok (.newarray .int, 2) := by decide +kernel
theorem dX0_init_64 : decode cX0_init 64 = .ok (.putfield 37, 3) := by decide +kernel
theorem dX0_init_67 : decode cX0_init 67 = .ok (.aload_n 0, 1) := by decide +kernel
theorem dX0_init_68 : decode cX0_init 68 = .ok (.aload_n 0, 1) := by decide +kernel
theorem dX0_init_69 : decode cX0_init 69 = .ok (.getfield 22, 3) := by decide +kernel
theorem dX0_init_72 : decode cX0_init 72 = .ok (.newarray .int, 2) := by decide +kernel
theorem dX0_init_74 : decode cX0_init 74 = .ok (.putfield 40, 3) := by decide +kernel
theorem dX0_init_77 : decode cX0_init 77 = .ok (.aload_n 0, 1) := by decide +kernel
theorem dX0_init_78 : decode cX0_init 78 = .ok (.aload_n 0, 1) := by decide +kernel
theorem dX0_init_79 : decode cX0_init 79 = .ok (.getfield 22, 3) := by decide +kernel
theorem dX0_init_82 : decode cX0_init 82 = .ok (.newarray .int, 2) := by decide +kernel
theorem dX0_init_84 : decode cX0_init 84 = .ok (.putfield 43, 3) := by decide +kernel
theorem dX0_init_87 : decode cX0_init 87 = .ok (.aload_n 0, 1) := by decide +kernel
theorem dX0_init_88 : decode cX0_init 88 = .ok (.aload_n 0, 1) := by decide +kernel
theorem dX0_init_89 : decode cX0_init 89 = .ok (.getfield 22, 3) := by decide +kernel
theorem dX0_init_92 : decode cX0_init 92 = .ok (.newarray .int, 2) := by decide +kernel
theorem dX0_init_94 : decode cX0_init 94 = .ok (.putfield 46, 3) := by decide +kernel
theorem dX0_init_97 : decode cX0_init 97 = .ok (.aload_n 0, 1) := by decide +kernel
theorem dX0_init_98 : decode cX0_init 98 = .ok (.getfield 33, 3) := by decide +kernel
theorem dX0_init_101 : decode cX0_init 101 = .ok (.sipush 255, 3) := by decide +kernel
theorem dX0_init_104 : decode cX0_init 104 = .ok (.invokestatic 49, 3) := by decide +kernel
theorem dX0_init_107 : decode cX0_init 107 = .ok (.aload_n 0, 1) := by decide +kernel
theorem dX0_init_108 : decode cX0_init 108 = .ok (.getfield 37, 3) := by decide +kernel
theorem dX0_init_111 : decode cX0_init 111 = .ok (.sipush 255, 3) := by decide +kernel
theorem dX0_init_114 : decode cX0_init 114 = .ok (.invokestatic 49, 3) := by decide +kernel
theorem dX0_init_117 : decode cX0_init 117 = .ok (.aload_n 0, 1) := by decide +kernel
theorem dX0_init_118 : decode cX0_init 118 = .ok (.getfield 40, 3) := by decide +kernel
theorem dX0_init_121 : decode cX0_init 121 = .ok (.iconst 3, 1) := by decide +kernel
theorem dX0_init_122 : decode cX0_init 122 = .ok (.invokestatic 49, 3) := by decide +kernel
theorem dX0_init_125 : decode cX0_init 125 = .ok (.aload_n 0, 1) := by decide +kernel
theorem dX0_init_126 : decode cX0_init 126 = .ok (.getfield 46, 3) := by decide +kernel
theorem dX0_init_129 : decode cX0_init 129 = .ok (.iconst (-1), 1) := by decide +kernel
theorem dX0_init_130 : decode cX0_init 130 = .ok (.invokestatic 49, 3) := by decide +kernel
theorem dX0_init_133 : decode cX0_init 133 = .ok (.return_, 1) := by decide +kernel
theorem dX0_setLimits_0 : decode cX0_setLimits 0 = .ok (.aload_n 0, 1) := by decide +kernel
theorem dX0_setLimits_1 : decode cX0_setLimits 1 = .ok (.iload_n 1, 1) := by decide +kernel
theorem dX0_setLimits_2 : decode cX0_setLimits 2 = .ok (.putfield 55, 3) := by decide +kernel
theorem dX0_setLimits_5 : decode cX0_setLimits 5 = .ok (.aload_n 0, 1) := by decide +kernel
theorem dX0_setLimits_6 : decode cX0_setLimits 6 = .ok (.iload_n 2, 1) := by decide +kernel
theorem dX0_setLimits_7 : decode cX0_setLimits 7 = .ok (.putfield 58, 3) := by decide +kernel
theorem dX0_setLimits_10 : decode cX0_setLimits 10 = .ok (.aload_n 0, 1) := by decide +kernel
theorem dX0_setLimits_11 : decode cX0_setLimits 11 = .ok (.iload_n 3, 1) := by decide +kernel
theorem dX0_setLimits_12 : decode cX0_setLimits 12 = .ok (.putfield 61, 3) := by decide +kernel
theorem dX0_setLimits_15 : decode cX0_setLimits 15 = .ok (.return_, 1) := by decide +kernel
theorem dX0_setWear_0 : decode cX0_setWear 0 = .ok (.aload_n 0, 1) := by decide +kernel
theorem dX0_setWear_1 : decode cX0_setWear 1 = .ok (.iload_n 1, 1) := by decide +kernel
theorem dX0_setWear_2 : decode cX0_setWear 2 = .ok (.putfield 64, 3) := by decide +kernel
theorem dX0_setWear_5 : decode cX0_setWear 5 = .ok (.aload_n 0, 1) := by decide +kernel
theorem dX0_setWear_6 : decode cX0_setWear 6 = .ok (.iload_n 2, 1) := by decide +kernel
theorem dX0_setWear_7 : decode cX0_setWear 7 = .ok (.putfield 67, 3) := by decide +kernel
theorem dX0_setWear_10 : decode cX0_setWear 10 = .ok (.return_, 1) := by decide +kernel
theorem dX0_setNeed_0 : decode cX0_setNeed 0 = .ok (.aload_n 0, 1) := by decide +kernel
theorem dX0_setNeed_1 : decode cX0_setNeed 1 = .ok (.iload_n 1, 1) := by decide +kernel
theorem dX0_setNeed_2 : decode cX0_setNeed 2 = .ok (.invokevirtual 70, 3) := by decide +kernel
theorem dX0_setNeed_5 : decode cX0_setNeed 5 = .ok (.ifCond .ne 5, 3) := by decide +kernel
theorem dX0_setNeed_8 : decode cX0_setNeed 8 = .ok (.iconst 0, 1) := by decide +kernel
theorem dX0_setNeed_9 : decode cX0_setNeed 9 = .ok (.ireturn, 1) := by decide +kernel
theorem dX0_setNeed_10 : decode cX0_setNeed 10 = .ok (.aload_n 0, 1) := by decide +kernel
theorem dX0_setNeed_11 : decode cX0_setNeed 11 = .ok (.getfield 40, 3) := by decide +kernel
theorem dX0_setNeed_14 : decode cX0_setNeed 14 = .ok (.iload_n 1, 1) := by decide +kernel
theorem dX0_setNeed_15 : decode cX0_setNeed 15 = .ok (.iload_n 2, 1) := by decide +kernel
theorem dX0_setNeed_16 : decode cX0_setNeed 16 = .ok (.iastore, 1) := by decide +kernel
theorem dX0_setNeed_17 : decode cX0_setNeed 17 = .ok (.iconst 1, 1) := by decide +kernel
theorem dX0_setNeed_18 : decode cX0_setNeed 18 = .ok (.ireturn, 1) := by decide +kernel
theorem dX0_setBad_0 : decode cX0_setBad 0 = .ok (.iload_n 1, 1) := by decide +kernel
theorem dX0_setBad_1 : decode cX0_setBad 1 = .ok (.iconst 0, 1) := by decide +kernel
theorem dX0_setBad_2 : decode cX0_setBad 2 = .ok (.aload_n 0, 1) := by decide +kernel
theorem dX0_setBad_3 : decode cX0_setBad 3 = .ok (.invokevirtual 73, 3) := by decide +kernel
theorem dX0_setBad_6 : decode cX0_setBad 6 = .ok (.iconst 1, 1) := by decide +kernel
theorem dX0_setBad_7 : decode cX0_setBad 7 = .ok (.isub, 1) := by decide +kernel
theorem dX0_setBad_8 : decode cX0_setBad 8 = .ok (.invokestatic 77, 3) := by decide +kernel
theorem dX0_setBad_11 : decode cX0_setBad 11 = .ok (.ifCond .ne 5, 3) := by decide +kernel
theorem dX0_setBad_14 : decode cX0_setBad 14 = .ok (.iconst 0, 1) := by decide +kernel
theorem dX0_setBad_15 : decode cX0_setBad 15 = .ok (.ireturn, 1) := by decide +kernel
theorem dX0_setBad_16 : decode cX0_setBad 16 = .ok (.aload_n 0, 1) := by decide +kernel
theorem dX0_setBad_17 : decode cX0_setBad 17 = .ok (.getfield 9, 3) := by decide +kernel
theorem dX0_setBad_20 : decode cX0_setBad 20 = .ok (.iload_n 1, 1) := by decide +kernel
theorem dX0_setBad_21 : decode cX0_setBad 21 = .ok (.iload_n 2, 1) := by decide +kernel
theorem dX0_setBad_22 : decode cX0_setBad 22 = .ok (.bastore, 1) := by decide +kernel
theorem dX0_setBad_23 : decode cX0_setBad 23 = .ok (.iconst 1, 1) := by decide +kernel
theorem dX0_setBad_24 : decode cX0_setBad 24 = .ok (.ireturn, 1) := by decide +kernel
theorem dX0_setContact_0 : decode cX0_setContact 0 = .ok (.iload_n 1, 1) := by decide +kernel
theorem dX0_setContact_1 : decode cX0_setContact 1 = .ok (.iconst 0, 1) := by decide +kernel
theorem dX0_setContact_2 : decode cX0_setContact 2 = .ok (.bipush 27, 2) := by decide +kernel
theorem dX0_setContact_4 : decode cX0_setContact 4 = .ok (.invokestatic 77, 3) := by decide +kernel
theorem dX0_setContact_7 : decode cX0_setContact 7 = .ok (.ifCond .ne 5, 3) := by decide +kernel
theorem dX0_setContact_10 : decode cX0_setContact 10 = .ok (.iconst 0, 1) := by decide +kernel
theorem dX0_setContact_11 : decode cX0_setContact 11 = .ok (.ireturn, 1) := by decide +kernel
theorem dX0_setContact_12 : decode cX0_setContact 12 = .ok (.aload_n 0, 1) := by decide +kernel
theorem dX0_setContact_13 : decode cX0_setContact 13 = .ok (.getfield 15, 3) := by decide +kernel
theorem dX0_setContact_16 : decode cX0_setContact 16 = .ok (.iload_n 1, 1) := by decide +kernel
theorem dX0_setContact_17 : decode cX0_setContact 17 = .ok (.iload_n 2, 1) := by decide +kernel
theorem dX0_setContact_18 : decode cX0_setContact 18 = .ok (.ifCond .ne 7, 3) := by decide +kernel
theorem dX0_setContact_21 : decode cX0_setContact 21 = .ok (.iconst 1, 1) := by decide +kernel
theorem dX0_setContact_22 : decode cX0_setContact 22 = .ok (.goto 4, 3) := by decide +kernel
theorem dX0_setContact_25 : decode cX0_setContact 25 = .ok (.iconst 0, 1) := by decide +kernel
theorem dX0_setContact_26 : decode cX0_setContact 26 = .ok (.bastore, 1) := by decide +kernel
theorem dX0_setContact_27 : decode cX0_setContact 27 = .ok (.iconst 1, 1) := by decide +kernel
theorem dX0_setContact_28 : decode cX0_setContact 28 = .ok (.ireturn, 1) := by decide +kernel
theorem dX0_wipe_0 : decode cX0_wipe 0 = .ok (.aload_n 0, 1) := by decide +kernel
theorem dX0_wipe_1 : decode cX0_wipe 1 = .ok (.dup, 1) := by decide +kernel
theorem dX0_wipe_2 : decode cX0_wipe 2 = .ok (.getfield 81, 3) := by decide +kernel
theorem dX0_wipe_5 : decode cX0_wipe 5 = .ok (.iconst 1, 1) := by decide +kernel
theorem dX0_wipe_6 : decode cX0_wipe 6 = .ok (.iadd, 1) := by decide +kernel
theorem dX0_wipe_7 : decode cX0_wipe 7 = .ok (.putfield 81, 3) := by decide +kernel
theorem dX0_wipe_10 : decode cX0_wipe 10 = .ok (.aload_n 0, 1) := by decide +kernel
theorem dX0_wipe_11 : decode cX0_wipe 11 = .ok (.getfield 33, 3) := by decide +kernel
theorem dX0_wipe_14 : decode cX0_wipe 14 = .ok (.sipush 255, 3) := by decide +kernel
theorem dX0_wipe_17 : decode cX0_wipe 17 = .ok (.invokestatic 49, 3) := by decide +kernel
theorem dX0_wipe_20 : decode cX0_wipe 20 = .ok (.aload_n 0, 1) := by decide +kernel
theorem dX0_wipe_21 : decode cX0_wipe 21 = .ok (.getfield 37, 3) := by decide +kernel
theorem dX0_wipe_24 : decode cX0_wipe 24 = .ok (.sipush 255, 3) := by decide +kernel
theorem dX0_wipe_27 : decode cX0_wipe 27 = .ok (.invokestatic 49, 3) := by decide +kernel
theorem dX0_wipe_30 : decode cX0_wipe 30 = .ok (.aload_n 0, 1) := by decide +kernel
theorem dX0_wipe_31 : decode cX0_wipe 31 = .ok (.getfield 43, 3) := by decide +kernel
theorem dX0_wipe_34 : decode cX0_wipe 34 = .ok (.iconst 0, 1) := by decide +kernel
theorem dX0_wipe_35 : decode cX0_wipe 35 = .ok (.invokestatic 49, 3) := by decide +kernel
theorem dX0_wipe_38 : decode cX0_wipe 38 = .ok (.aload_n 0, 1) := by decide +kernel
theorem dX0_wipe_39 : decode cX0_wipe 39 = .ok (.getfield 46, 3) := by decide +kernel
theorem dX0_wipe_42 : decode cX0_wipe 42 = .ok (.iconst (-1), 1) := by decide +kernel
theorem dX0_wipe_43 : decode cX0_wipe 43 = .ok (.invokestatic 49, 3) := by decide +kernel
theorem dX0_wipe_46 : decode cX0_wipe 46 = .ok (.aload_n 0, 1) := by decide +kernel
theorem dX0_wipe_47 : decode cX0_wipe 47 = .ok (.getfield 81, 3) := by decide +kernel
theorem dX0_wipe_50 : decode cX0_wipe 50 = .ok (.aload_n 0, 1) := by decide +kernel
theorem dX0_wipe_51 : decode cX0_wipe 51 = .ok (.getfield 67, 3) := by decide +kernel
theorem dX0_wipe_54 : decode cX0_wipe 54 = .ok (.if_icmp .le 29, 3) := by decide +kernel
theorem dX0_wipe_57 : decode cX0_wipe 57 = .ok (.iconst 0, 1) := by decide +kernel
theorem dX0_wipe_58 : decode cX0_wipe 58 = .ok (.istore_n 1, 1) := by decide +kernel
theorem dX0_wipe_59 : decode cX0_wipe 59 = .ok (.iload_n 1, 1) := by decide +kernel
theorem dX0_wipe_60 : decode cX0_wipe 60 = .ok (.aload_n 0, 1) := by decide +kernel
theorem dX0_wipe_61 : decode cX0_wipe 61 = .ok (.getfield 22, 3) := by decide +kernel
theorem dX0_wipe_64 : decode cX0_wipe 64 = .ok (.if_icmp .ge 19, 3) := by decide +kernel
theorem dX0_wipe_67 : decode cX0_wipe 67 = .ok (.aload_n 0, 1) := by decide +kernel
theorem dX0_wipe_68 : decode cX0_wipe 68 = .ok (.getfield 40, 3) := by decide +kernel
theorem dX0_wipe_71 : decode cX0_wipe 71 = .ok (.iload_n 1, 1) := by decide +kernel
theorem dX0_wipe_72 : decode cX0_wipe 72 = .ok (.dup2, 1) := by decide +kernel
theorem dX0_wipe_73 : decode cX0_wipe 73 = .ok (.iaload, 1) := by decide +kernel
theorem dX0_wipe_74 : decode cX0_wipe 74 = .ok (.iconst 1, 1) := by decide +kernel
theorem dX0_wipe_75 : decode cX0_wipe 75 = .ok (.iadd, 1) := by decide +kernel
theorem dX0_wipe_76 : decode cX0_wipe 76 = .ok (.iastore, 1) := by decide +kernel
theorem dX0_wipe_77 : decode cX0_wipe 77 = .ok (.iinc 1 1, 3) := by decide +kernel
theorem dX0_wipe_80 : decode cX0_wipe 80 = .ok (.goto (-21), 3) := by decide +kernel
theorem dX0_wipe_83 : decode cX0_wipe 83 = .ok (.return_, 1) := by decide +kernel
theorem dX0_property_0 : decode cX0_property 0 = .ok (.iload_n 1, 1) := by decide +kernel
theorem dX0_property_1 : decode cX0_property 1 = .ok (.tableswitch 60 0 4 #[35, 40, 45, 50, 55], 35) := by decide +kernel
theorem dX0_property_36 : decode cX0_property 36 = .ok (.aload_n 0, 1) := by decide +kernel
theorem dX0_property_37 : decode cX0_property 37 = .ok (.getfield 22, 3) := by decide +kernel
theorem dX0_property_40 : decode cX0_property 40 = .ok (.ireturn, 1) := by decide +kernel
theorem dX0_property_41 : decode cX0_property 41 = .ok (.aload_n 0, 1) := by decide +kernel
theorem dX0_property_42 : decode cX0_property 42 = .ok (.invokevirtual 84, 3) := by decide +kernel
theorem dX0_property_45 : decode cX0_property 45 = .ok (.ireturn, 1) := by decide +kernel
theorem dX0_property_46 : decode cX0_property 46 = .ok (.aload_n 0, 1) := by decide +kernel
theorem dX0_property_47 : decode cX0_property 47 = .ok (.invokevirtual 87, 3) := by decide +kernel
theorem dX0_property_50 : decode cX0_property 50 = .ok (.ireturn, 1) := by decide +kernel
theorem dX0_property_51 : decode cX0_property 51 = .ok (.aload_n 0, 1) := by decide +kernel
theorem dX0_property_52 : decode cX0_property 52 = .ok (.getfield 81, 3) := by decide +kernel
theorem dX0_property_55 : decode cX0_property 55 = .ok (.ireturn, 1) := by decide +kernel
theorem dX0_property_56 : decode cX0_property 56 = .ok (.aload_n 0, 1) := by decide +kernel
theorem dX0_property_57 : decode cX0_property 57 = .ok (.getfield 90, 3) := by decide +kernel
theorem dX0_property_60 : decode cX0_property 60 = .ok (.ireturn, 1) := by decide +kernel
theorem dX0_property_61 : decode cX0_property 61 = .ok (.iconst (-1), 1) := by decide +kernel
theorem dX0_property_62 : decode cX0_property 62 = .ok (.ireturn, 1) := by decide +kernel
theorem dX0_cell_0 : decode cX0_cell 0 = .ok (.iload_n 1, 1) := by decide +kernel
theorem dX0_cell_1 : decode cX0_cell 1 = .ok (.iconst 5, 1) := by decide +kernel
theorem dX0_cell_2 : decode cX0_cell 2 = .ok (.if_icmp .ne 9, 3) := by decide +kernel
theorem dX0_cell_5 : decode cX0_cell 5 = .ok (.aload_n 0, 1) := by decide +kernel
theorem dX0_cell_6 : decode cX0_cell 6 = .ok (.iload_n 2, 1) := by decide +kernel
theorem dX0_cell_7 : decode cX0_cell 7 = .ok (.invokevirtual 93, 3) := by decide +kernel
theorem dX0_cell_10 : decode cX0_cell 10 = .ok (.ireturn, 1) := by decide +kernel
theorem dX0_cell_11 : decode cX0_cell 11 = .ok (.aload_n 0, 1) := by decide +kernel
theorem dX0_cell_12 : decode cX0_cell 12 = .ok (.iload_n 2, 1) := by decide +kernel
theorem dX0_cell_13 : decode cX0_cell 13 = .ok (.invokevirtual 70, 3) := by decide +kernel
theorem dX0_cell_16 : decode cX0_cell 16 = .ok (.ifCond .ne 5, 3) := by decide +kernel
theorem dX0_cell_19 : decode cX0_cell 19 = .ok (.iconst (-1), 1) := by decide +kernel
theorem dX0_cell_20 : decode cX0_cell 20 = .ok (.ireturn, 1) := by decide +kernel
theorem dX0_cell_21 : decode cX0_cell 21 = .ok (.iload_n 1, 1) := by decide +kernel
theorem dX0_cell_22 : decode cX0_cell 22 = .ok (.tableswitch 58 1 4 #[30, 37, 44, 51], 30) := by decide +kernel
theorem dX0_cell_52 : decode cX0_cell 52 = .ok (.aload_n 0, 1) := by decide +kernel
theorem dX0_cell_53 : decode cX0_cell 53 = .ok (.getfield 33, 3) := by decide +kernel
theorem dX0_cell_56 : decode cX0_cell 56 = .ok (.iload_n 2, 1) := by decide +kernel
theorem dX0_cell_57 : decode cX0_cell 57 = .ok (.iaload, 1) := by decide +kernel
theorem dX0_cell_58 : decode cX0_cell 58 = .ok (.ireturn, 1) := by decide +kernel
theorem dX0_cell_59 : decode cX0_cell 59 = .ok (.aload_n 0, 1) := by decide +kernel
theorem dX0_cell_60 : decode cX0_cell 60 = .ok (.getfield 37, 3) := by decide +kernel
theorem dX0_cell_63 : decode cX0_cell 63 = .ok (.iload_n 2, 1) := by decide +kernel
theorem dX0_cell_64 : decode cX0_cell 64 = .ok (.iaload, 1) := by decide +kernel
theorem dX0_cell_65 : decode cX0_cell 65 = .ok (.ireturn, 1) := by decide +kernel
theorem dX0_cell_66 : decode cX0_cell 66 = .ok (.aload_n 0, 1) := by decide +kernel
theorem dX0_cell_67 : decode cX0_cell 67 = .ok (.getfield 40, 3) := by decide +kernel
theorem dX0_cell_70 : decode cX0_cell 70 = .ok (.iload_n 2, 1) := by decide +kernel
theorem dX0_cell_71 : decode cX0_cell 71 = .ok (.iaload, 1) := by decide +kernel
theorem dX0_cell_72 : decode cX0_cell 72 = .ok (.ireturn, 1) := by decide +kernel
theorem dX0_cell_73 : decode cX0_cell 73 = .ok (.aload_n 0, 1) := by decide +kernel
theorem dX0_cell_74 : decode cX0_cell 74 = .ok (.getfield 43, 3) := by decide +kernel
theorem dX0_cell_77 : decode cX0_cell 77 = .ok (.iload_n 2, 1) := by decide +kernel
theorem dX0_cell_78 : decode cX0_cell 78 = .ok (.iaload, 1) := by decide +kernel
theorem dX0_cell_79 : decode cX0_cell 79 = .ok (.ireturn, 1) := by decide +kernel
theorem dX0_cell_80 : decode cX0_cell 80 = .ok (.iconst (-1), 1) := by decide +kernel
theorem dX0_cell_81 : decode cX0_cell 81 = .ok (.ireturn, 1) := by decide +kernel
theorem dX0_firstLackingPin_0 : decode cX0_firstLackingPin 0 = .ok (.iconst 0, 1) := by decide +kernel
theorem dX0_firstLackingPin_1 : decode cX0_firstLackingPin 1 = .ok (.istore_n 1, 1) := by decide +kernel
theorem dX0_firstLackingPin_2 : decode cX0_firstLackingPin 2 = .ok (.iload_n 1, 1) := by decide +kernel
theorem dX0_firstLackingPin_3 : decode cX0_firstLackingPin 3 = .ok (.bipush 28, 2) := by decide +kernel
theorem dX0_firstLackingPin_5 : decode cX0_firstLackingPin 5 = .ok (.if_icmp .ge 20, 3) := by decide +kernel
theorem dX0_firstLackingPin_8 : decode cX0_firstLackingPin 8 = .ok (.aload_n 0, 1) := by decide +kernel
theorem dX0_firstLackingPin_9 : decode cX0_firstLackingPin 9 = .ok (.getfield 15, 3) := by decide +kernel
theorem dX0_firstLackingPin_12 : decode cX0_firstLackingPin 12 = .ok (.iload_n 1, 1) := by decide +kernel
theorem dX0_firstLackingPin_13 : decode cX0_firstLackingPin 13 = .ok (.baload, 1) := by decide +kernel
theorem dX0_firstLackingPin_14 : decode cX0_firstLackingPin 14 = .ok (.ifCond .eq 5, 3) := by decide +kernel
theorem dX0_firstLackingPin_17 : decode cX0_firstLackingPin 17 = .ok (.iload_n 1, 1) := by decide +kernel
theorem dX0_firstLackingPin_18 : decode cX0_firstLackingPin 18 = .ok (.ireturn, 1) := by decide +kernel
theorem dX0_firstLackingPin_19 : decode cX0_firstLackingPin 19 = .ok (.iinc 1 1, 3) := by decide +kernel
theorem dX0_firstLackingPin_22 : decode cX0_firstLackingPin 22 = .ok (.goto (-20), 3) := by decide +kernel
theorem dX0_firstLackingPin_25 : decode cX0_firstLackingPin 25 = .ok (.iconst (-1), 1) := by decide +kernel
theorem dX0_firstLackingPin_26 : decode cX0_firstLackingPin 26 = .ok (.ireturn, 1) := by decide +kernel
theorem dX0_logicalCount_0 : decode cX0_logicalCount 0 = .ok (.iconst 0, 1) := by decide +kernel
theorem dX0_logicalCount_1 : decode cX0_logicalCount 1 = .ok (.istore_n 1, 1) := by decide +kernel
theorem dX0_logicalCount_2 : decode cX0_logicalCount 2 = .ok (.iconst 0, 1) := by decide +kernel
theorem dX0_logicalCount_3 : decode cX0_logicalCount 3 = .ok (.istore_n 2, 1) := by decide +kernel
theorem dX0_logicalCount_4 : decode cX0_logicalCount 4 = .ok (.iload_n 2, 1) := by decide +kernel
theorem dX0_logicalCount_5 : decode cX0_logicalCount 5 = .ok (.aload_n 0, 1) := by decide +kernel
theorem dX0_logicalCount_6 : decode cX0_logicalCount 6 = .ok (.invokevirtual 73, 3) := by decide +kernel
theorem dX0_logicalCount_9 : decode cX0_logicalCount 9 = .ok (.if_icmp .ge 21, 3) := by decide +kernel
theorem dX0_logicalCount_12 : decode cX0_logicalCount 12 = .ok (.aload_n 0, 1) := by decide +kernel
theorem dX0_logicalCount_13 : decode cX0_logicalCount 13 = .ok (.getfield 9, 3) := by decide +kernel
theorem dX0_logicalCount_16 : decode cX0_logicalCount 16 = .ok (.iload_n 2, 1) := by decide +kernel
theorem dX0_logicalCount_17 : decode cX0_logicalCount 17 = .ok (.baload, 1) := by decide +kernel
theorem dX0_logicalCount_18 : decode cX0_logicalCount 18 = .ok (.ifCond .ne 6, 3) := by decide +kernel
theorem dX0_logicalCount_21 : decode cX0_logicalCount 21 = .ok (.iinc 1 1, 3) := by decide +kernel
theorem dX0_logicalCount_24 : decode cX0_logicalCount 24 = .ok (.iinc 2 1, 3) := by decide +kernel
theorem dX0_logicalCount_27 : decode cX0_logicalCount 27 = .ok (.goto (-23), 3) := by decide +kernel
theorem dX0_logicalCount_30 : decode cX0_logicalCount 30 = .ok (.iload_n 1, 1) := by decide +kernel
theorem dX0_logicalCount_31 : decode cX0_logicalCount 31 = .ok (.bipush 8, 2) := by decide +kernel
theorem dX0_logicalCount_33 : decode cX0_logicalCount 33 = .ok (.imul, 1) := by decide +kernel
theorem dX0_logicalCount_34 : decode cX0_logicalCount 34 = .ok (.ireturn, 1) := by decide +kernel
theorem dX0_addressOf_0 : decode cX0_addressOf 0 = .ok (.iload_n 1, 1) := by decide +kernel
theorem dX0_addressOf_1 : decode cX0_addressOf 1 = .ok (.ifCond .ge 5, 3) := by decide +kernel
theorem dX0_addressOf_4 : decode cX0_addressOf 4 = .ok (.iconst (-1), 1) := by decide +kernel
theorem dX0_addressOf_5 : decode cX0_addressOf 5 = .ok (.ireturn, 1) := by decide +kernel
theorem dX0_addressOf_6 : decode cX0_addressOf 6 = .ok (.iload_n 1, 1) := by decide +kernel
theorem dX0_addressOf_7 : decode cX0_addressOf 7 = .ok (.bipush 8, 2) := by decide +kernel
theorem dX0_addressOf_9 : decode cX0_addressOf 9 = .ok (.idiv, 1) := by decide +kernel
theorem dX0_addressOf_10 : decode cX0_addressOf 10 = .ok (.istore_n 2, 1) := by decide +kernel
theorem dX0_addressOf_11 : decode cX0_addressOf 11 = .ok (.iconst 0, 1) := by decide +kernel
theorem dX0_addressOf_12 : decode cX0_addressOf 12 = .ok (.istore_n 3, 1) := by decide +kernel
theorem dX0_addressOf_13 : decode cX0_addressOf 13 = .ok (.iload_n 3, 1) := by decide +kernel
theorem dX0_addressOf_14 : decode cX0_addressOf 14 = .ok (.aload_n 0, 1) := by decide +kernel
theorem dX0_addressOf_15 : decode cX0_addressOf 15 = .ok (.invokevirtual 73, 3) := by decide +kernel
theorem dX0_addressOf_18 : decode cX0_addressOf 18 = .ok (.if_icmp .ge 35, 3) := by decide +kernel
theorem dX0_addressOf_21 : decode cX0_addressOf 21 = .ok (.aload_n 0, 1) := by decide +kernel
theorem dX0_addressOf_22 : decode cX0_addressOf 22 = .ok (.getfield 9, 3) := by decide +kernel
theorem dX0_addressOf_25 : decode cX0_addressOf 25 = .ok (.iload_n 3, 1) := by decide +kernel
theorem dX0_addressOf_26 : decode cX0_addressOf 26 = .ok (.baload, 1) := by decide +kernel
theorem dX0_addressOf_27 : decode cX0_addressOf 27 = .ok (.ifCond .ne 20, 3) := by decide +kernel
theorem dX0_addressOf_30 : decode cX0_addressOf 30 = .ok (.iload_n 2, 1) := by decide +kernel
theorem dX0_addressOf_31 : decode cX0_addressOf 31 = .ok (.ifCond .ne 13, 3) := by decide +kernel
theorem dX0_addressOf_34 : decode cX0_addressOf 34 = .ok (.iload_n 3, 1) := by decide +kernel
theorem dX0_addressOf_35 : decode cX0_addressOf 35 = .ok (.bipush 8, 2) := by decide +kernel
theorem dX0_addressOf_37 : decode cX0_addressOf 37 = .ok (.imul, 1) := by decide +kernel
theorem dX0_addressOf_38 : decode cX0_addressOf 38 = .ok (.iload_n 1, 1) := by decide +kernel
theorem dX0_addressOf_39 : decode cX0_addressOf 39 = .ok (.bipush 8, 2) := by decide +kernel
theorem dX0_addressOf_41 : decode cX0_addressOf 41 = .ok (.irem, 1) := by decide +kernel
theorem dX0_addressOf_42 : decode cX0_addressOf 42 = .ok (.iadd, 1) := by decide +kernel
theorem dX0_addressOf_43 : decode cX0_addressOf 43 = .ok (.ireturn, 1) := by decide +kernel
theorem dX0_addressOf_44 : decode cX0_addressOf 44 = .ok (.iinc 2 (-1), 3) := by decide +kernel
theorem dX0_addressOf_47 : decode cX0_addressOf 47 = .ok (.iinc 3 1, 3) := by decide +kernel
theorem dX0_addressOf_50 : decode cX0_addressOf 50 = .ok (.goto (-37), 3) := by decide +kernel
theorem dX0_addressOf_53 : decode cX0_addressOf 53 = .ok (.iconst (-1), 1) := by decide +kernel
theorem dX0_addressOf_54 : decode cX0_addressOf 54 = .ok (.ireturn, 1) := by decide +kernel
theorem dX0_isRight_0 : decode cX0_isRight 0 = .ok (.aload_n 0, 1) := by decide +kernel
theorem dX0_isRight_1 : decode cX0_isRight 1 = .ok (.iload_n 1, 1) := by decide +kernel
theorem dX0_isRight_2 : decode cX0_isRight 2 = .ok (.invokevirtual 70, 3) := by decide +kernel
theorem dX0_isRight_5 : decode cX0_isRight 5 = .ok (.ifCond .eq 27, 3) := by decide +kernel
theorem dX0_isRight_8 : decode cX0_isRight 8 = .ok (.aload_n 0, 1) := by decide +kernel
theorem dX0_isRight_9 : decode cX0_isRight 9 = .ok (.getfield 33, 3) := by decide +kernel
theorem dX0_isRight_12 : decode cX0_isRight 12 = .ok (.iload_n 1, 1) := by decide +kernel
theorem dX0_isRight_13 : decode cX0_isRight 13 = .ok (.iaload, 1) := by decide +kernel
theorem dX0_isRight_14 : decode cX0_isRight 14 = .ok (.iload_n 2, 1) := by decide +kernel
theorem dX0_isRight_15 : decode cX0_isRight 15 = .ok (.if_icmp .ne 17, 3) := by decide +kernel
theorem dX0_isRight_18 : decode cX0_isRight 18 = .ok (.aload_n 0, 1) := by decide +kernel
theorem dX0_isRight_19 : decode cX0_isRight 19 = .ok (.getfield 37, 3) := by decide +kernel
theorem dX0_isRight_22 : decode cX0_isRight 22 = .ok (.iload_n 1, 1) := by decide +kernel
theorem dX0_isRight_23 : decode cX0_isRight 23 = .ok (.iaload, 1) := by decide +kernel
theorem dX0_isRight_24 : decode cX0_isRight 24 = .ok (.iload_n 2, 1) := by decide +kernel
theorem dX0_isRight_25 : decode cX0_isRight 25 = .ok (.if_icmp .ne 7, 3) := by decide +kernel
theorem dX0_isRight_28 : decode cX0_isRight 28 = .ok (.iconst 1, 1) := by decide +kernel
theorem dX0_isRight_29 : decode cX0_isRight 29 = .ok (.goto 4, 3) := by decide +kernel
theorem dX0_isRight_32 : decode cX0_isRight 32 = .ok (.iconst 0, 1) := by decide +kernel
theorem dX0_isRight_33 : decode cX0_isRight 33 = .ok (.ireturn, 1) := by decide +kernel
theorem dX0_mustGoBack_0 : decode cX0_mustGoBack 0 = .ok (.aload_n 0, 1) := by decide +kernel
theorem dX0_mustGoBack_1 : decode cX0_mustGoBack 1 = .ok (.iload_n 1, 1) := by decide +kernel
theorem dX0_mustGoBack_2 : decode cX0_mustGoBack 2 = .ok (.invokevirtual 70, 3) := by decide +kernel
theorem dX0_mustGoBack_5 : decode cX0_mustGoBack 5 = .ok (.ifCond .eq 26, 3) := by decide +kernel
theorem dX0_mustGoBack_8 : decode cX0_mustGoBack 8 = .ok (.aload_n 0, 1) := by decide +kernel
theorem dX0_mustGoBack_9 : decode cX0_mustGoBack 9 = .ok (.getfield 33, 3) := by decide +kernel
theorem dX0_mustGoBack_12 : decode cX0_mustGoBack 12 = .ok (.iload_n 1, 1) := by decide +kernel
theorem dX0_mustGoBack_13 : decode cX0_mustGoBack 13 = .ok (.iaload, 1) := by decide +kernel
theorem dX0_mustGoBack_14 : decode cX0_mustGoBack 14 = .ok (.aload_n 0, 1) := by decide +kernel
theorem dX0_mustGoBack_15 : decode cX0_mustGoBack 15 = .ok (.getfield 37, 3) := by decide +kernel
theorem dX0_mustGoBack_18 : decode cX0_mustGoBack 18 = .ok (.iload_n 1, 1) := by decide +kernel
theorem dX0_mustGoBack_19 : decode cX0_mustGoBack 19 = .ok (.iaload, 1) := by decide +kernel
theorem dX0_mustGoBack_20 : decode cX0_mustGoBack 20 = .ok (.iand, 1) := by decide +kernel
theorem dX0_mustGoBack_21 : decode cX0_mustGoBack 21 = .ok (.iload_n 2, 1) := by decide +kernel
theorem dX0_mustGoBack_22 : decode cX0_mustGoBack 22 = .ok (.iand, 1) := by decide +kernel
theorem dX0_mustGoBack_23 : decode cX0_mustGoBack 23 = .ok (.iload_n 2, 1) := by decide +kernel
theorem dX0_mustGoBack_24 : decode cX0_mustGoBack 24 = .ok (.if_icmp .eq 7, 3) := by decide +kernel
theorem dX0_mustGoBack_27 : decode cX0_mustGoBack 27 = .ok (.iconst 1, 1) := by decide +kernel
theorem dX0_mustGoBack_28 : decode cX0_mustGoBack 28 = .ok (.goto 4, 3) := by decide +kernel
theorem dX0_mustGoBack_31 : decode cX0_mustGoBack 31 = .ok (.iconst 0, 1) := by decide +kernel
theorem dX0_mustGoBack_32 : decode cX0_mustGoBack 32 = .ok (.ireturn, 1) := by decide +kernel
theorem dX0_takePulse_0 : decode cX0_takePulse 0 = .ok (.aload_n 0, 1) := by decide +kernel
theorem dX0_takePulse_1 : decode cX0_takePulse 1 = .ok (.dup, 1) := by decide +kernel
theorem dX0_takePulse_2 : decode cX0_takePulse 2 = .ok (.getfield 90, 3) := by decide +kernel
theorem dX0_takePulse_5 : decode cX0_takePulse 5 = .ok (.iconst 1, 1) := by decide +kernel
theorem dX0_takePulse_6 : decode cX0_takePulse 6 = .ok (.iadd, 1) := by decide +kernel
theorem dX0_takePulse_7 : decode cX0_takePulse 7 = .ok (.putfield 90, 3) := by decide +kernel
theorem dX0_takePulse_10 : decode cX0_takePulse 10 = .ok (.iload_n 3, 1) := by decide +kernel
theorem dX0_takePulse_11 : decode cX0_takePulse 11 = .ok (.aload_n 0, 1) := by decide +kernel
theorem dX0_takePulse_12 : decode cX0_takePulse 12 = .ok (.getfield 55, 3) := by decide +kernel
theorem dX0_takePulse_15 : decode cX0_takePulse 15 = .ok (.if_icmp .lt 11, 3) := by decide +kernel
theorem dX0_takePulse_18 : decode cX0_takePulse 18 = .ok (.aload_n 0, 1) := by decide +kernel
theorem dX0_takePulse_19 : decode cX0_takePulse 19 = .ok (.iload_n 1, 1) := by decide +kernel
theorem dX0_takePulse_20 : decode cX0_takePulse 20 = .ok (.invokevirtual 70, 3) := by decide +kernel
theorem dX0_takePulse_23 : decode cX0_takePulse 23 = .ok (.ifCond .ne 4, 3) := by decide +kernel
theorem dX0_takePulse_26 : decode cX0_takePulse 26 = .ok (.return_, 1) := by decide +kernel
theorem dX0_takePulse_27 : decode cX0_takePulse 27 = .ok (.aload_n 0, 1) := by decide +kernel
theorem dX0_takePulse_28 : decode cX0_takePulse 28 = .ok (.getfield 43, 3) := by decide +kernel
theorem dX0_takePulse_31 : decode cX0_takePulse 31 = .ok (.iload_n 1, 1) := by decide +kernel
theorem dX0_takePulse_32 : decode cX0_takePulse 32 = .ok (.aload_n 0, 1) := by decide +kernel
theorem dX0_takePulse_33 : decode cX0_takePulse 33 = .ok (.getfield 46, 3) := by decide +kernel
theorem dX0_takePulse_36 : decode cX0_takePulse 36 = .ok (.iload_n 1, 1) := by decide +kernel
theorem dX0_takePulse_37 : decode cX0_takePulse 37 = .ok (.iaload, 1) := by decide +kernel
theorem dX0_takePulse_38 : decode cX0_takePulse 38 = .ok (.iload_n 2, 1) := by decide +kernel
theorem dX0_takePulse_39 : decode cX0_takePulse 39 = .ok (.if_icmp .ne 14, 3) := by decide +kernel
theorem dX0_takePulse_42 : decode cX0_takePulse 42 = .ok (.aload_n 0, 1) := by decide +kernel
theorem dX0_takePulse_43 : decode cX0_takePulse 43 = .ok (.getfield 43, 3) := by decide +kernel
theorem dX0_takePulse_46 : decode cX0_takePulse 46 = .ok (.iload_n 1, 1) := by decide +kernel
theorem dX0_takePulse_47 : decode cX0_takePulse 47 = .ok (.iaload, 1) := by decide +kernel
theorem dX0_takePulse_48 : decode cX0_takePulse 48 = .ok (.iconst 1, 1) := by decide +kernel
theorem dX0_takePulse_49 : decode cX0_takePulse 49 = .ok (.iadd, 1) := by decide +kernel
theorem dX0_takePulse_50 : decode cX0_takePulse 50 = .ok (.goto 4, 3) := by decide +kernel
theorem dX0_takePulse_53 : decode cX0_takePulse 53 = .ok (.iconst 1, 1) := by decide +kernel
theorem dX0_takePulse_54 : decode cX0_takePulse 54 = .ok (.iastore, 1) := by decide +kernel
theorem dX0_takePulse_55 : decode cX0_takePulse 55 = .ok (.aload_n 0, 1) := by decide +kernel
theorem dX0_takePulse_56 : decode cX0_takePulse 56 = .ok (.getfield 46, 3) := by decide +kernel
theorem dX0_takePulse_59 : decode cX0_takePulse 59 = .ok (.iload_n 1, 1) := by decide +kernel
theorem dX0_takePulse_60 : decode cX0_takePulse 60 = .ok (.iload_n 2, 1) := by decide +kernel
theorem dX0_takePulse_61 : decode cX0_takePulse 61 = .ok (.iastore, 1) := by decide +kernel
theorem dX0_takePulse_62 : decode cX0_takePulse 62 = .ok (.aload_n 0, 1) := by decide +kernel
theorem dX0_takePulse_63 : decode cX0_takePulse 63 = .ok (.getfield 43, 3) := by decide +kernel
theorem dX0_takePulse_66 : decode cX0_takePulse 66 = .ok (.iload_n 1, 1) := by decide +kernel
theorem dX0_takePulse_67 : decode cX0_takePulse 67 = .ok (.iaload, 1) := by decide +kernel
theorem dX0_takePulse_68 : decode cX0_takePulse 68 = .ok (.aload_n 0, 1) := by decide +kernel
theorem dX0_takePulse_69 : decode cX0_takePulse 69 = .ok (.getfield 40, 3) := by decide +kernel
theorem dX0_takePulse_72 : decode cX0_takePulse 72 = .ok (.iload_n 1, 1) := by decide +kernel
theorem dX0_takePulse_73 : decode cX0_takePulse 73 = .ok (.iaload, 1) := by decide +kernel
theorem dX0_takePulse_74 : decode cX0_takePulse 74 = .ok (.if_icmp .lt 13, 3) := by decide +kernel
theorem dX0_takePulse_77 : decode cX0_takePulse 77 = .ok (.aload_n 0, 1) := by decide +kernel
theorem dX0_takePulse_78 : decode cX0_takePulse 78 = .ok (.getfield 33, 3) := by decide +kernel
theorem dX0_takePulse_81 : decode cX0_takePulse 81 = .ok (.iload_n 1, 1) := by decide +kernel
theorem dX0_takePulse_82 : decode cX0_takePulse 82 = .ok (.dup2, 1) := by decide +kernel
theorem dX0_takePulse_83 : decode cX0_takePulse 83 = .ok (.iaload, 1) := by decide +kernel
theorem dX0_takePulse_84 : decode cX0_takePulse 84 = .ok (.iload_n 2, 1) := by decide +kernel
theorem dX0_takePulse_85 : decode cX0_takePulse 85 = .ok (.iand, 1) := by decide +kernel
theorem dX0_takePulse_86 : decode cX0_takePulse 86 = .ok (.iastore, 1) := by decide +kernel
theorem dX0_takePulse_87 : decode cX0_takePulse 87 = .ok (.aload_n 0, 1) := by decide +kernel
theorem dX0_takePulse_88 : decode cX0_takePulse 88 = .ok (.getfield 43, 3) := by decide +kernel
theorem dX0_takePulse_91 : decode cX0_takePulse 91 = .ok (.iload_n 1, 1) := by decide +kernel
theorem dX0_takePulse_92 : decode cX0_takePulse 92 = .ok (.iaload, 1) := by decide +kernel
theorem dX0_takePulse_93 : decode cX0_takePulse 93 = .ok (.aload_n 0, 1) := by decide +kernel
theorem dX0_takePulse_94 : decode cX0_takePulse 94 = .ok (.getfield 40, 3) := by decide +kernel
theorem dX0_takePulse_97 : decode cX0_takePulse 97 = .ok (.iload_n 1, 1) := by decide +kernel
theorem dX0_takePulse_98 : decode cX0_takePulse 98 = .ok (.iaload, 1) := by decide +kernel
theorem dX0_takePulse_99 : decode cX0_takePulse 99 = .ok (.aload_n 0, 1) := by decide +kernel
theorem dX0_takePulse_100 : decode cX0_takePulse 100 = .ok (.getfield 64, 3) := by decide +kernel
theorem dX0_takePulse_103 : decode cX0_takePulse 103 = .ok (.iadd, 1) := by decide +kernel
theorem dX0_takePulse_104 : decode cX0_takePulse 104 = .ok (.if_icmp .lt 13, 3) := by decide +kernel
theorem dX0_takePulse_107 : decode cX0_takePulse 107 = .ok (.aload_n 0, 1) := by decide +kernel
theorem dX0_takePulse_108 : decode cX0_takePulse 108 = .ok (.getfield 37, 3) := by decide +kernel
theorem dX0_takePulse_111 : decode cX0_takePulse 111 = .ok (.iload_n 1, 1) := by decide +kernel
theorem dX0_takePulse_112 : decode cX0_takePulse 112 = .ok (.dup2, 1) := by decide +kernel
theorem dX0_takePulse_113 : decode cX0_takePulse 113 = .ok (.iaload, 1) := by decide +kernel
theorem dX0_takePulse_114 : decode cX0_takePulse 114 = .ok (.iload_n 2, 1) := by decide +kernel
theorem dX0_takePulse_115 : decode cX0_takePulse 115 = .ok (.iand, 1) := by decide +kernel
theorem dX0_takePulse_116 : decode cX0_takePulse 116 = .ok (.iastore, 1) := by decide +kernel
theorem dX0_takePulse_117 : decode cX0_takePulse 117 = .ok (.return_, 1) := by decide +kernel
theorem dX0_blockCount_0 : decode cX0_blockCount 0 = .ok (.aload_n 0, 1) := by decide +kernel
theorem dX0_blockCount_1 : decode cX0_blockCount 1 = .ok (.getfield 22, 3) := by decide +kernel
theorem dX0_blockCount_4 : decode cX0_blockCount 4 = .ok (.bipush 8, 2) := by decide +kernel
theorem dX0_blockCount_6 : decode cX0_blockCount 6 = .ok (.idiv, 1) := by decide +kernel
theorem dX0_blockCount_7 : decode cX0_blockCount 7 = .ok (.ireturn, 1) := by decide +kernel
theorem dX0_isAddress_0 : decode cX0_isAddress 0 = .ok (.iload_n 1, 1) := by decide +kernel
theorem dX0_isAddress_1 : decode cX0_isAddress 1 = .ok (.ifCond .lt 15, 3) := by decide +kernel
theorem dX0_isAddress_4 : decode cX0_isAddress 4 = .ok (.iload_n 1, 1) := by decide +kernel
theorem dX0_isAddress_5 : decode cX0_isAddress 5 = .ok (.aload_n 0, 1) := by decide +kernel
theorem dX0_isAddress_6 : decode cX0_isAddress 6 = .ok (.getfield 22, 3) := by decide +kernel
theorem dX0_isAddress_9 : decode cX0_isAddress 9 = .ok (.if_icmp .ge 7, 3) := by decide +kernel
theorem dX0_isAddress_12 : decode cX0_isAddress 12 = .ok (.iconst 1, 1) := by decide +kernel
theorem dX0_isAddress_13 : decode cX0_isAddress 13 = .ok (.goto 4, 3) := by decide +kernel
theorem dX0_isAddress_16 : decode cX0_isAddress 16 = .ok (.iconst 0, 1) := by decide +kernel
theorem dX0_isAddress_17 : decode cX0_isAddress 17 = .ok (.ireturn, 1) := by decide +kernel
theorem dX1_init_0 : decode cX1_init 0 = .ok (.aload_n 0, 1) := by decide +kernel
theorem dX1_init_1 : decode cX1_init 1 = .ok (.invokespecial 3, 3) := by decide +kernel
theorem dX1_init_4 : decode cX1_init 4 = .ok (.aload_n 0, 1) := by decide +kernel
theorem dX1_init_5 : decode cX1_init 5 = .ok (.iconst (-1), 1) := by decide +kernel
theorem dX1_init_6 : decode cX1_init 6 = .ok (.putfield 9, 3) := by decide +kernel
theorem dX1_init_9 : decode cX1_init 9 = .ok (.aload_n 0, 1) := by decide +kernel
theorem dX1_init_10 : decode cX1_init 10 = .ok (.iconst (-1), 1) := by decide +kernel
theorem dX1_init_11 : decode cX1_init 11 = .ok (.putfield 15, 3) := by decide +kernel
theorem dX1_init_14 : decode cX1_init 14 = .ok (.return_, 1) := by decide +kernel
theorem dX1_start_0 : decode cX1_start 0 = .ok (.aload_n 0, 1) := by decide +kernel
theorem dX1_start_1 : decode cX1_start 1 = .ok (.iconst 0, 1) := by decide +kernel
theorem dX1_start_2 : decode cX1_start 2 = .ok (.putfield 9, 3) := by decide +kernel
theorem dX1_start_5 : decode cX1_start 5 = .ok (.aload_n 0, 1) := by decide +kernel
theorem dX1_start_6 : decode cX1_start 6 = .ok (.iconst (-1), 1) := by decide +kernel
theorem dX1_start_7 : decode cX1_start 7 = .ok (.putfield 15, 3) := by decide +kernel
theorem dX1_start_10 : decode cX1_start 10 = .ok (.return_, 1) := by decide +kernel
theorem dX1_mark_0 : decode cX1_mark 0 = .ok (.aload_n 0, 1) := by decide +kernel
theorem dX1_mark_1 : decode cX1_mark 1 = .ok (.iload_n 1, 1) := by decide +kernel
theorem dX1_mark_2 : decode cX1_mark 2 = .ok (.putfield 9, 3) := by decide +kernel
theorem dX1_mark_5 : decode cX1_mark 5 = .ok (.aload_n 0, 1) := by decide +kernel
theorem dX1_mark_6 : decode cX1_mark 6 = .ok (.iload_n 2, 1) := by decide +kernel
theorem dX1_mark_7 : decode cX1_mark 7 = .ok (.putfield 15, 3) := by decide +kernel
theorem dX1_mark_10 : decode cX1_mark 10 = .ok (.return_, 1) := by decide +kernel
theorem dX1_isFault_0 : decode cX1_isFault 0 = .ok (.aload_n 0, 1) := by decide +kernel
theorem dX1_isFault_1 : decode cX1_isFault 1 = .ok (.getfield 9, 3) := by decide +kernel
theorem dX1_isFault_4 : decode cX1_isFault 4 = .ok (.ifCond .le 7, 3) := by decide +kernel
theorem dX1_isFault_7 : decode cX1_isFault 7 = .ok (.iconst 1, 1) := by decide +kernel
theorem dX1_isFault_8 : decode cX1_isFault 8 = .ok (.goto 4, 3) := by decide +kernel
theorem dX1_isFault_11 : decode cX1_isFault 11 = .ok (.iconst 0, 1) := by decide +kernel
theorem dX1_isFault_12 : decode cX1_isFault 12 = .ok (.ireturn, 1) := by decide +kernel
theorem dX2_init_0 : decode cX2_init 0 = .ok (.aload_n 0, 1) := by decide +kernel
theorem dX2_init_1 : decode cX2_init 1 = .ok (.invokespecial 3, 3) := by decide +kernel
theorem dX2_init_4 : decode cX2_init 4 = .ok (.aload_n 0, 1) := by decide +kernel
theorem dX2_init_5 : decode cX2_init 5 = .ok (.sipush 256, 3) := by decide +kernel
theorem dX2_init_8 : decode cX2_init 8 = .ok (.newarray .int, 2) := by decide +kernel
theorem dX2_init_10 : decode cX2_init 10 = .ok (.putfield 9, 3) := by decide +kernel
theorem dX2_init_13 : decode cX2_init 13 = .ok (.aload_n 0, 1) := by decide +kernel
theorem dX2_init_14 : decode cX2_init 14 = .ok (.aload_n 1, 1) := by decide +kernel
theorem dX2_init_15 : decode cX2_init 15 = .ok (.putfield 15, 3) := by decide +kernel
theorem dX2_init_18 : decode cX2_init 18 = .ok (.aload_n 0, 1) := by decide +kernel
theorem dX2_init_19 : decode cX2_init 19 = .ok (.aload_n 2, 1) := by decide +kernel
theorem dX2_init_20 : decode cX2_init 20 = .ok (.putfield 19, 3) := by decide +kernel
theorem dX2_init_23 : decode cX2_init 23 = .ok (.return_, 1) := by decide +kernel
theorem dX2_readInto_0 : decode cX2_readInto 0 = .ok (.aload_n 1, 1) := by decide +kernel
theorem dX2_readInto_1 : decode cX2_readInto 1 = .ok (.arraylength, 1) := by decide +kernel
theorem dX2_readInto_2 : decode cX2_readInto 2 = .ok (.sipush 256, 3) := by decide +kernel
theorem dX2_readInto_5 : decode cX2_readInto 5 = .ok (.invokestatic 23, 3) := by decide +kernel
theorem dX2_readInto_8 : decode cX2_readInto 8 = .ok (.istore_n 3, 1) := by decide +kernel
theorem dX2_readInto_9 : decode cX2_readInto 9 = .ok (.aload_n 1, 1) := by decide +kernel
theorem dX2_readInto_10 : decode cX2_readInto 10 = .ok (.iconst 0, 1) := by decide +kernel
theorem dX2_readInto_11 : decode cX2_readInto 11 = .ok (.aload_n 0, 1) := by decide +kernel
theorem dX2_readInto_12 : decode cX2_readInto 12 = .ok (.getfield 9, 3) := by decide +kernel
theorem dX2_readInto_15 : decode cX2_readInto 15 = .ok (.iconst 0, 1) := by decide +kernel
theorem dX2_readInto_16 : decode cX2_readInto 16 = .ok (.iload_n 3, 1) := by decide +kernel
theorem dX2_readInto_17 : decode cX2_readInto 17 = .ok (.invokestatic 29, 3) := by decide +kernel
theorem dX2_readInto_20 : decode cX2_readInto 20 = .ok (.aload_n 0, 1) := by decide +kernel
theorem dX2_readInto_21 : decode cX2_readInto 21 = .ok (.getfield 19, 3) := by decide +kernel
theorem dX2_readInto_24 : decode cX2_readInto 24 = .ok (.invokevirtual 35, 3) := by decide +kernel
theorem dX2_readInto_27 : decode cX2_readInto 27 = .ok (.aload_n 0, 1) := by decide +kernel
theorem dX2_readInto_28 : decode cX2_readInto 28 = .ok (.iconst 0, 1) := by decide +kernel
theorem dX2_readInto_29 : decode cX2_readInto 29 = .ok (.putfield 40, 3) := by decide +kernel
theorem dX2_readInto_32 : decode cX2_readInto 32 = .ok (.iload_n 2, 1) := by decide +kernel
theorem dX2_readInto_33 : decode cX2_readInto 33 = .ok (.ifCond .ne 10, 3) := by decide +kernel
theorem dX2_readInto_36 : decode cX2_readInto 36 = .ok (.aload_n 0, 1) := by decide +kernel
theorem dX2_readInto_37 : decode cX2_readInto 37 = .ok (.invokevirtual 44, 3) := by decide +kernel
theorem dX2_readInto_40 : decode cX2_readInto 40 = .ok (.goto 8, 3) := by decide +kernel
theorem dX2_readInto_43 : decode cX2_readInto 43 = .ok (.aload_n 0, 1) := by decide +kernel
theorem dX2_readInto_44 : decode cX2_readInto 44 = .ok (.iload_n 2, 1) := by decide +kernel
theorem dX2_readInto_45 : decode cX2_readInto 45 = .ok (.invokevirtual 47, 3) := by decide +kernel
theorem dX2_readInto_48 : decode cX2_readInto 48 = .ok (.aload_n 0, 1) := by decide +kernel
theorem dX2_readInto_49 : decode cX2_readInto 49 = .ok (.getfield 19, 3) := by decide +kernel
theorem dX2_readInto_52 : decode cX2_readInto 52 = .ok (.invokevirtual 51, 3) := by decide +kernel
theorem dX2_readInto_55 : decode cX2_readInto 55 = .ok (.ifCond .eq 5, 3) := by decide +kernel
theorem dX2_readInto_58 : decode cX2_readInto 58 = .ok (.iconst (-1), 1) := by decide +kernel
theorem dX2_readInto_59 : decode cX2_readInto 59 = .ok (.ireturn, 1) := by decide +kernel
theorem dX2_readInto_60 : decode cX2_readInto 60 = .ok (.aload_n 0, 1) := by decide +kernel
theorem dX2_readInto_61 : decode cX2_readInto 61 = .ok (.getfield 9, 3) := by decide +kernel
theorem dX2_readInto_64 : decode cX2_readInto 64 = .ok (.iconst 0, 1) := by decide +kernel
theorem dX2_readInto_65 : decode cX2_readInto 65 = .ok (.aload_n 1, 1) := by decide +kernel
theorem dX2_readInto_66 : decode cX2_readInto 66 = .ok (.iconst 0, 1) := by decide +kernel
theorem dX2_readInto_67 : decode cX2_readInto 67 = .ok (.iload_n 3, 1) := by decide +kernel
theorem dX2_readInto_68 : decode cX2_readInto 68 = .ok (.invokestatic 29, 3) := by decide +kernel
theorem dX2_readInto_71 : decode cX2_readInto 71 = .ok (.aload_n 0, 1) := by decide +kernel
theorem dX2_readInto_72 : decode cX2_readInto 72 = .ok (.getfield 40, 3) := by decide +kernel
theorem dX2_readInto_75 : decode cX2_readInto 75 = .ok (.ireturn, 1) := by decide +kernel
theorem dX2_takePlain_0 : decode cX2_takePlain 0 = .ok (.aload_n 0, 1) := by decide +kernel
theorem dX2_takePlain_1 : decode cX2_takePlain 1 = .ok (.getfield 15, 3) := by decide +kernel
theorem dX2_takePlain_4 : decode cX2_takePlain 4 = .ok (.invokevirtual 55, 3) := by decide +kernel
theorem dX2_takePlain_7 : decode cX2_takePlain 7 = .ok (.sipush 256, 3) := by decide +kernel
theorem dX2_takePlain_10 : decode cX2_takePlain 10 = .ok (.if_icmp .le 15, 3) := by decide +kernel
theorem dX2_takePlain_13 : decode cX2_takePlain 13 = .ok (.aload_n 0, 1) := by decide +kernel
theorem dX2_takePlain_14 : decode cX2_takePlain 14 = .ok (.getfield 19, 3) := by decide +kernel
theorem dX2_takePlain_17 : decode cX2_takePlain 17 = .ok (.iconst 5, 1) := by decide +kernel
theorem dX2_takePlain_18 : decode cX2_takePlain 18 = .ok (.sipush 256, 3) := by decide +kernel
theorem dX2_takePlain_21 : decode cX2_takePlain 21 = .ok (.invokevirtual 61, 3) := by decide +kernel
theorem dX2_takePlain_24 : decode cX2_takePlain 24 = .ok (.return_, 1) := by decide +kernel
theorem dX2_takePlain_25 : decode cX2_takePlain 25 = .ok (.iconst 0, 1) := by decide +kernel
theorem dX2_takePlain_26 : decode cX2_takePlain 26 = .ok (.istore_n 1, 1) := by decide +kernel
theorem dX2_takePlain_27 : decode cX2_takePlain 27 = .ok (.iload_n 1, 1) := by decide +kernel
theorem dX2_takePlain_28 : decode cX2_takePlain 28 = .ok (.aload_n 0, 1) := by decide +kernel
theorem dX2_takePlain_29 : decode cX2_takePlain 29 = .ok (.getfield 15, 3) := by decide +kernel
theorem dX2_takePlain_32 : decode cX2_takePlain 32 = .ok (.invokevirtual 55, 3) := by decide +kernel
theorem dX2_takePlain_35 : decode cX2_takePlain 35 = .ok (.if_icmp .ge 22, 3) := by decide +kernel
theorem dX2_takePlain_38 : decode cX2_takePlain 38 = .ok (.aload_n 0, 1) := by decide +kernel
theorem dX2_takePlain_39 : decode cX2_takePlain 39 = .ok (.iload_n 1, 1) := by decide +kernel
theorem dX2_takePlain_40 : decode cX2_takePlain 40 = .ok (.aload_n 0, 1) := by decide +kernel
theorem dX2_takePlain_41 : decode cX2_takePlain 41 = .ok (.getfield 15, 3) := by decide +kernel
theorem dX2_takePlain_44 : decode cX2_takePlain 44 = .ok (.iload_n 1, 1) := by decide +kernel
theorem dX2_takePlain_45 : decode cX2_takePlain 45 = .ok (.invokevirtual 65, 3) := by decide +kernel
theorem dX2_takePlain_48 : decode cX2_takePlain 48 = .ok (.invokevirtual 69, 3) := by decide +kernel
theorem dX2_takePlain_51 : decode cX2_takePlain 51 = .ok (.iinc 1 1, 3) := by decide +kernel
theorem dX2_takePlain_54 : decode cX2_takePlain 54 = .ok (.goto (-27), 3) := by decide +kernel
theorem dX2_takePlain_57 : decode cX2_takePlain 57 = .ok (.return_, 1) := by decide +kernel
theorem dX2_takeLines_0 : decode cX2_takeLines 0 = .ok (.aload_n 0, 1) := by decide +kernel
theorem dX2_takeLines_1 : decode cX2_takeLines 1 = .ok (.iconst 0, 1) := by decide +kernel
theorem dX2_takeLines_2 : decode cX2_takeLines 2 = .ok (.putfield 72, 3) := by decide +kernel
theorem dX2_takeLines_5 : decode cX2_takeLines 5 = .ok (.iconst 0, 1) := by decide +kernel
theorem dX2_takeLines_6 : decode cX2_takeLines 6 = .ok (.istore_n 2, 1) := by decide +kernel
theorem dX2_takeLines_7 : decode cX2_takeLines 7 = .ok (.iconst 0, 1) := by decide +kernel
theorem dX2_takeLines_8 : decode cX2_takeLines 8 = .ok (.istore_n 3, 1) := by decide +kernel
theorem dX2_takeLines_9 : decode cX2_takeLines 9 = .ok (.iload_n 3, 1) := by decide +kernel
theorem dX2_takeLines_10 : decode cX2_takeLines 10 = .ok (.aload_n 0, 1) := by decide +kernel
theorem dX2_takeLines_11 : decode cX2_takeLines 11 = .ok (.getfield 15, 3) := by decide +kernel
theorem dX2_takeLines_14 : decode cX2_takeLines 14 = .ok (.invokevirtual 55, 3) := by decide +kernel
theorem dX2_takeLines_17 : decode cX2_takeLines 17 = .ok (.if_icmp .gt 65, 3) := by decide +kernel
theorem dX2_takeLines_20 : decode cX2_takeLines 20 = .ok (.aload_n 0, 1) := by decide +kernel
theorem dX2_takeLines_21 : decode cX2_takeLines 21 = .ok (.getfield 72, 3) := by decide +kernel
theorem dX2_takeLines_24 : decode cX2_takeLines 24 = .ok (.ifCond .ne 58, 3) := by decide +kernel
theorem dX2_takeLines_27 : decode cX2_takeLines 27 = .ok (.aload_n 0, 1) := by decide +kernel
theorem dX2_takeLines_28 : decode cX2_takeLines 28 = .ok (.getfield 19, 3) := by decide +kernel
theorem dX2_takeLines_31 : decode cX2_takeLines 31 = .ok (.invokevirtual 51, 3) := by decide +kernel
theorem dX2_takeLines_34 : decode cX2_takeLines 34 = .ok (.ifCond .ne 48, 3) := by decide +kernel
theorem dX2_takeLines_37 : decode cX2_takeLines 37 = .ok (.aload_n 0, 1) := by decide +kernel
theorem dX2_takeLines_38 : decode cX2_takeLines 38 = .ok (.getfield 15, 3) := by decide +kernel
theorem dX2_takeLines_41 : decode cX2_takeLines 41 = .ok (.iload_n 3, 1) := by decide +kernel
theorem dX2_takeLines_42 : decode cX2_takeLines 42 = .ok (.invokevirtual 65, 3) := by decide +kernel
theorem dX2_takeLines_45 : decode cX2_takeLines 45 = .ok (.istore 4, 2) := by decide +kernel
theorem dX2_takeLines_47 : decode cX2_takeLines 47 = .ok (.iload 4, 2) := by decide +kernel
theorem dX2_takeLines_49 : decode cX2_takeLines 49 = .ok (.bipush 10, 2) := by decide +kernel
theorem dX2_takeLines_51 : decode cX2_takeLines 51 = .ok (.if_icmp .eq 9, 3) := by decide +kernel
theorem dX2_takeLines_54 : decode cX2_takeLines 54 = .ok (.iload 4, 2) := by decide +kernel
theorem dX2_takeLines_56 : decode cX2_takeLines 56 = .ok (.iconst (-1), 1) := by decide +kernel
theorem dX2_takeLines_57 : decode cX2_takeLines 57 = .ok (.if_icmp .ne 19, 3) := by decide +kernel
theorem dX2_takeLines_60 : decode cX2_takeLines 60 = .ok (.aload_n 0, 1) := by decide +kernel
theorem dX2_takeLines_61 : decode cX2_takeLines 61 = .ok (.iload_n 1, 1) := by decide +kernel
theorem dX2_takeLines_62 : decode cX2_takeLines 62 = .ok (.iload_n 2, 1) := by decide +kernel
theorem dX2_takeLines_63 : decode cX2_takeLines 63 = .ok (.aload_n 0, 1) := by decide +kernel
theorem dX2_takeLines_64 : decode cX2_takeLines 64 = .ok (.iload_n 2, 1) := by decide +kernel
theorem dX2_takeLines_65 : decode cX2_takeLines 65 = .ok (.iload_n 3, 1) := by decide +kernel
theorem dX2_takeLines_66 : decode cX2_takeLines 66 = .ok (.invokevirtual 76, 3) := by decide +kernel
theorem dX2_takeLines_69 : decode cX2_takeLines 69 = .ok (.invokevirtual 79, 3) := by decide +kernel
theorem dX2_takeLines_72 : decode cX2_takeLines 72 = .ok (.iload_n 3, 1) := by decide +kernel
theorem dX2_takeLines_73 : decode cX2_takeLines 73 = .ok (.iconst 1, 1) := by decide +kernel
theorem dX2_takeLines_74 : decode cX2_takeLines 74 = .ok (.iadd, 1) := by decide +kernel
theorem dX2_takeLines_75 : decode cX2_takeLines 75 = .ok (.istore_n 2, 1) := by decide +kernel
theorem dX2_takeLines_76 : decode cX2_takeLines 76 = .ok (.iinc 3 1, 3) := by decide +kernel
theorem dX2_takeLines_79 : decode cX2_takeLines 79 = .ok (.goto (-70), 3) := by decide +kernel
theorem dX2_takeLines_82 : decode cX2_takeLines 82 = .ok (.aload_n 0, 1) := by decide +kernel
theorem dX2_takeLines_83 : decode cX2_takeLines 83 = .ok (.getfield 72, 3) := by decide +kernel
theorem dX2_takeLines_86 : decode cX2_takeLines 86 = .ok (.ifCond .ne 28, 3) := by decide +kernel
theorem dX2_takeLines_89 : decode cX2_takeLines 89 = .ok (.aload_n 0, 1) := by decide +kernel
theorem dX2_takeLines_90 : decode cX2_takeLines 90 = .ok (.getfield 19, 3) := by decide +kernel
theorem dX2_takeLines_93 : decode cX2_takeLines 93 = .ok (.invokevirtual 51, 3) := by decide +kernel
theorem dX2_takeLines_96 : decode cX2_takeLines 96 = .ok (.ifCond .ne 18, 3) := by decide +kernel
theorem dX2_takeLines_99 : decode cX2_takeLines 99 = .ok (.aload_n 0, 1) := by decide +kernel
theorem dX2_takeLines_100 : decode cX2_takeLines 100 = .ok (.getfield 19, 3) := by decide +kernel
theorem dX2_takeLines_103 : decode cX2_takeLines 103 = .ok (.iconst 4, 1) := by decide +kernel
theorem dX2_takeLines_104 : decode cX2_takeLines 104 = .ok (.aload_n 0, 1) := by decide +kernel
theorem dX2_takeLines_105 : decode cX2_takeLines 105 = .ok (.getfield 15, 3) := by decide +kernel
theorem dX2_takeLines_108 : decode cX2_takeLines 108 = .ok (.invokevirtual 55, 3) := by decide +kernel
theorem dX2_takeLines_111 : decode cX2_takeLines 111 = .ok (.invokevirtual 61, 3) := by decide +kernel
theorem dX2_takeLines_114 : decode cX2_takeLines 114 = .ok (.return_, 1) := by decide +kernel
theorem dX2_stopOf_0 : decode cX2_stopOf 0 = .ok (.aload_n 0, 1) := by decide +kernel
theorem dX2_stopOf_1 : decode cX2_stopOf 1 = .ok (.getfield 15, 3) := by decide +kernel
theorem dX2_stopOf_4 : decode cX2_stopOf 4 = .ok (.iload_n 2, 1) := by decide +kernel
theorem dX2_stopOf_5 : decode cX2_stopOf 5 = .ok (.invokevirtual 65, 3) := by decide +kernel
theorem dX2_stopOf_8 : decode cX2_stopOf 8 = .ok (.bipush 10, 2) := by decide +kernel
theorem dX2_stopOf_10 : decode cX2_stopOf 10 = .ok (.if_icmp .ne 27, 3) := by decide +kernel
theorem dX2_stopOf_13 : decode cX2_stopOf 13 = .ok (.iload_n 2, 1) := by decide +kernel
theorem dX2_stopOf_14 : decode cX2_stopOf 14 = .ok (.iload_n 1, 1) := by decide +kernel
theorem dX2_stopOf_15 : decode cX2_stopOf 15 = .ok (.if_icmp .le 22, 3) := by decide +kernel
theorem dX2_stopOf_18 : decode cX2_stopOf 18 = .ok (.aload_n 0, 1) := by decide +kernel
theorem dX2_stopOf_19 : decode cX2_stopOf 19 = .ok (.getfield 15, 3) := by decide +kernel
theorem dX2_stopOf_22 : decode cX2_stopOf 22 = .ok (.iload_n 2, 1) := by decide +kernel
theorem dX2_stopOf_23 : decode cX2_stopOf 23 = .ok (.iconst 1, 1) := by decide +kernel
theorem dX2_stopOf_24 : decode cX2_stopOf 24 = .ok (.isub, 1) := by decide +kernel
theorem dX2_stopOf_25 : decode cX2_stopOf 25 = .ok (.invokevirtual 65, 3) := by decide +kernel
theorem dX2_stopOf_28 : decode cX2_stopOf 28 = .ok (.bipush 13, 2) := by decide +kernel
theorem dX2_stopOf_30 : decode cX2_stopOf 30 = .ok (.if_icmp .ne 7, 3) := by decide +kernel
theorem dX2_stopOf_33 : decode cX2_stopOf 33 = .ok (.iconst 1, 1) := by decide +kernel
theorem dX2_stopOf_34 : decode cX2_stopOf 34 = .ok (.goto 4, 3) := by decide +kernel
theorem dX2_stopOf_37 : decode cX2_stopOf 37 = .ok (.iconst 0, 1) := by decide +kernel
theorem dX2_stopOf_38 : decode cX2_stopOf 38 = .ok (.istore_n 3, 1) := by decide +kernel
theorem dX2_stopOf_39 : decode cX2_stopOf 39 = .ok (.iload_n 3, 1) := by decide +kernel
theorem dX2_stopOf_40 : decode cX2_stopOf 40 = .ok (.ifCond .eq 9, 3) := by decide +kernel
theorem dX2_stopOf_43 : decode cX2_stopOf 43 = .ok (.iload_n 2, 1) := by decide +kernel
theorem dX2_stopOf_44 : decode cX2_stopOf 44 = .ok (.iconst 1, 1) := by decide +kernel
theorem dX2_stopOf_45 : decode cX2_stopOf 45 = .ok (.isub, 1) := by decide +kernel
theorem dX2_stopOf_46 : decode cX2_stopOf 46 = .ok (.goto 4, 3) := by decide +kernel
theorem dX2_stopOf_49 : decode cX2_stopOf 49 = .ok (.iload_n 2, 1) := by decide +kernel
theorem dX2_stopOf_50 : decode cX2_stopOf 50 = .ok (.ireturn, 1) := by decide +kernel
theorem dX2_takeLine_0 : decode cX2_takeLine 0 = .ok (.iload_n 3, 1) := by decide +kernel
theorem dX2_takeLine_1 : decode cX2_takeLine 1 = .ok (.iload_n 2, 1) := by decide +kernel
theorem dX2_takeLine_2 : decode cX2_takeLine 2 = .ok (.if_icmp .gt 4, 3) := by decide +kernel
theorem dX2_takeLine_5 : decode cX2_takeLine 5 = .ok (.return_, 1) := by decide +kernel
theorem dX2_takeLine_6 : decode cX2_takeLine 6 = .ok (.iload_n 1, 1) := by decide +kernel
theorem dX2_takeLine_7 : decode cX2_takeLine 7 = .ok (.iconst 1, 1) := by decide +kernel
theorem dX2_takeLine_8 : decode cX2_takeLine 8 = .ok (.if_icmp .ne 7, 3) := by decide +kernel
theorem dX2_takeLine_11 : decode cX2_takeLine 11 = .ok (.iconst 1, 1) := by decide +kernel
theorem dX2_takeLine_12 : decode cX2_takeLine 12 = .ok (.goto 4, 3) := by decide +kernel
theorem dX2_takeLine_15 : decode cX2_takeLine 15 = .ok (.iconst 0, 1) := by decide +kernel
theorem dX2_takeLine_16 : decode cX2_takeLine 16 = .ok (.istore 4, 2) := by decide +kernel
theorem dX2_takeLine_18 : decode cX2_takeLine 18 = .ok (.iload 4, 2) := by decide +kernel
theorem dX2_takeLine_20 : decode cX2_takeLine 20 = .ok (.ifCond .eq 15, 3) := by decide +kernel
theorem dX2_takeLine_23 : decode cX2_takeLine 23 = .ok (.aload_n 0, 1) := by decide +kernel
theorem dX2_takeLine_24 : decode cX2_takeLine 24 = .ok (.iload_n 2, 1) := by decide +kernel
theorem dX2_takeLine_25 : decode cX2_takeLine 25 = .ok (.iload_n 3, 1) := by decide +kernel
theorem dX2_takeLine_26 : decode cX2_takeLine 26 = .ok (.invokevirtual 83, 3) := by decide +kernel
theorem dX2_takeLine_29 : decode cX2_takeLine 29 = .ok (.ifCond .eq 15, 3) := by decide +kernel
theorem dX2_takeLine_32 : decode cX2_takeLine 32 = .ok (.goto 24, 3) := by decide +kernel
theorem dX2_takeLine_35 : decode cX2_takeLine 35 = .ok (.aload_n 0, 1) := by decide +kernel
theorem dX2_takeLine_36 : decode cX2_takeLine 36 = .ok (.iload_n 2, 1) := by decide +kernel
theorem dX2_takeLine_37 : decode cX2_takeLine 37 = .ok (.iload_n 3, 1) := by decide +kernel
theorem dX2_takeLine_38 : decode cX2_takeLine 38 = .ok (.invokevirtual 87, 3) := by decide +kernel
theorem dX2_takeLine_41 : decode cX2_takeLine 41 = .ok (.ifCond .ne 15, 3) := by decide +kernel
theorem dX2_takeLine_44 : decode cX2_takeLine 44 = .ok (.aload_n 0, 1) := by decide +kernel
theorem dX2_takeLine_45 : decode cX2_takeLine 45 = .ok (.getfield 19, 3) := by decide +kernel
theorem dX2_takeLine_48 : decode cX2_takeLine 48 = .ok (.iconst 1, 1) := by decide +kernel
theorem dX2_takeLine_49 : decode cX2_takeLine 49 = .ok (.iload_n 2, 1) := by decide +kernel
theorem dX2_takeLine_50 : decode cX2_takeLine 50 = .ok (.invokevirtual 61, 3) := by decide +kernel
theorem dX2_takeLine_53 : decode cX2_takeLine 53 = .ok (.goto 79, 3) := by decide +kernel
theorem dX2_takeLine_56 : decode cX2_takeLine 56 = .ok (.aload_n 0, 1) := by decide +kernel
theorem dX2_takeLine_57 : decode cX2_takeLine 57 = .ok (.iload_n 2, 1) := by decide +kernel
theorem dX2_takeLine_58 : decode cX2_takeLine 58 = .ok (.iload 4, 2) := by decide +kernel
theorem dX2_takeLine_60 : decode cX2_takeLine 60 = .ok (.ifCond .eq 7, 3) := by decide +kernel
theorem dX2_takeLine_63 : decode cX2_takeLine 63 = .ok (.iconst 1, 1) := by decide +kernel
theorem dX2_takeLine_64 : decode cX2_takeLine 64 = .ok (.goto 4, 3) := by decide +kernel
theorem dX2_takeLine_67 : decode cX2_takeLine 67 = .ok (.iconst 2, 1) := by decide +kernel
theorem dX2_takeLine_68 : decode cX2_takeLine 68 = .ok (.iadd, 1) := by decide +kernel
theorem dX2_takeLine_69 : decode cX2_takeLine 69 = .ok (.iload_n 3, 1) := by decide +kernel
theorem dX2_takeLine_70 : decode cX2_takeLine 70 = .ok (.invokevirtual 90, 3) := by decide +kernel
theorem dX2_takeLine_73 : decode cX2_takeLine 73 = .ok (.sipush 256, 3) := by decide +kernel
theorem dX2_takeLine_76 : decode cX2_takeLine 76 = .ok (.irem, 1) := by decide +kernel
theorem dX2_takeLine_77 : decode cX2_takeLine 77 = .ok (.iload 4, 2) := by decide +kernel
theorem dX2_takeLine_79 : decode cX2_takeLine 79 = .ok (.ifCond .eq 7, 3) := by decide +kernel
theorem dX2_takeLine_82 : decode cX2_takeLine 82 = .ok (.iconst 0, 1) := by decide +kernel
theorem dX2_takeLine_83 : decode cX2_takeLine 83 = .ok (.goto 6, 3) := by decide +kernel
theorem dX2_takeLine_86 : decode cX2_takeLine 86 = .ok (.sipush 255, 3) := by decide +kernel
theorem dX2_takeLine_89 : decode cX2_takeLine 89 = .ok (.if_icmp .eq 15, 3) := by decide +kernel
theorem dX2_takeLine_92 : decode cX2_takeLine 92 = .ok (.aload_n 0, 1) := by decide +kernel
theorem dX2_takeLine_93 : decode cX2_takeLine 93 = .ok (.getfield 19, 3) := by decide +kernel
theorem dX2_takeLine_96 : decode cX2_takeLine 96 = .ok (.iconst 2, 1) := by decide +kernel
theorem dX2_takeLine_97 : decode cX2_takeLine 97 = .ok (.iload_n 2, 1) := by decide +kernel
theorem dX2_takeLine_98 : decode cX2_takeLine 98 = .ok (.invokevirtual 61, 3) := by decide +kernel
theorem dX2_takeLine_101 : decode cX2_takeLine 101 = .ok (.goto 31, 3) := by decide +kernel
theorem dX2_takeLine_104 : decode cX2_takeLine 104 = .ok (.aload_n 0, 1) := by decide +kernel
theorem dX2_takeLine_105 : decode cX2_takeLine 105 = .ok (.getfield 93, 3) := by decide +kernel
theorem dX2_takeLine_108 : decode cX2_takeLine 108 = .ok (.iconst 2, 1) := by decide +kernel
theorem dX2_takeLine_109 : decode cX2_takeLine 109 = .ok (.if_icmp .ne 11, 3) := by decide +kernel
theorem dX2_takeLine_112 : decode cX2_takeLine 112 = .ok (.aload_n 0, 1) := by decide +kernel
theorem dX2_takeLine_113 : decode cX2_takeLine 113 = .ok (.iconst 1, 1) := by decide +kernel
theorem dX2_takeLine_114 : decode cX2_takeLine 114 = .ok (.putfield 72, 3) := by decide +kernel
theorem dX2_takeLine_117 : decode cX2_takeLine 117 = .ok (.goto 15, 3) := by decide +kernel
theorem dX2_takeLine_120 : decode cX2_takeLine 120 = .ok (.aload_n 0, 1) := by decide +kernel
theorem dX2_takeLine_121 : decode cX2_takeLine 121 = .ok (.getfield 93, 3) := by decide +kernel
theorem dX2_takeLine_124 : decode cX2_takeLine 124 = .ok (.ifCond .ne 8, 3) := by decide +kernel
theorem dX2_takeLine_127 : decode cX2_takeLine 127 = .ok (.aload_n 0, 1) := by decide +kernel
theorem dX2_takeLine_128 : decode cX2_takeLine 128 = .ok (.iload_n 2, 1) := by decide +kernel
theorem dX2_takeLine_129 : decode cX2_takeLine 129 = .ok (.invokevirtual 96, 3) := by decide +kernel
theorem dX2_takeLine_132 : decode cX2_takeLine 132 = .ok (.return_, 1) := by decide +kernel
theorem dX2_takeData_0 : decode cX2_takeData 0 = .ok (.aload_n 0, 1) := by decide +kernel
theorem dX2_takeData_1 : decode cX2_takeData 1 = .ok (.getfield 99, 3) := by decide +kernel
theorem dX2_takeData_4 : decode cX2_takeData 4 = .ok (.ifCond .le 28, 3) := by decide +kernel
theorem dX2_takeData_7 : decode cX2_takeData 7 = .ok (.aload_n 0, 1) := by decide +kernel
theorem dX2_takeData_8 : decode cX2_takeData 8 = .ok (.getfield 102, 3) := by decide +kernel
theorem dX2_takeData_11 : decode cX2_takeData 11 = .ok (.aload_n 0, 1) := by decide +kernel
theorem dX2_takeData_12 : decode cX2_takeData 12 = .ok (.getfield 99, 3) := by decide +kernel
theorem dX2_takeData_15 : decode cX2_takeData 15 = .ok (.iadd, 1) := by decide +kernel
theorem dX2_takeData_16 : decode cX2_takeData 16 = .ok (.sipush 256, 3) := by decide +kernel
theorem dX2_takeData_19 : decode cX2_takeData 19 = .ok (.if_icmp .le 13, 3) := by decide +kernel
theorem dX2_takeData_22 : decode cX2_takeData 22 = .ok (.aload_n 0, 1) := by decide +kernel
theorem dX2_takeData_23 : decode cX2_takeData 23 = .ok (.getfield 19, 3) := by decide +kernel
theorem dX2_takeData_26 : decode cX2_takeData 26 = .ok (.iconst 3, 1) := by decide +kernel
theorem dX2_takeData_27 : decode cX2_takeData 27 = .ok (.iload_n 1, 1) := by decide +kernel
theorem dX2_takeData_28 : decode cX2_takeData 28 = .ok (.invokevirtual 61, 3) := by decide +kernel
theorem dX2_takeData_31 : decode cX2_takeData 31 = .ok (.return_, 1) := by decide +kernel
theorem dX2_takeData_32 : decode cX2_takeData 32 = .ok (.iconst 0, 1) := by decide +kernel
theorem dX2_takeData_33 : decode cX2_takeData 33 = .ok (.istore_n 2, 1) := by decide +kernel
theorem dX2_takeData_34 : decode cX2_takeData 34 = .ok (.iload_n 2, 1) := by decide +kernel
theorem dX2_takeData_35 : decode cX2_takeData 35 = .ok (.aload_n 0, 1) := by decide +kernel
theorem dX2_takeData_36 : decode cX2_takeData 36 = .ok (.getfield 99, 3) := by decide +kernel
theorem dX2_takeData_39 : decode cX2_takeData 39 = .ok (.if_icmp .ge 34, 3) := by decide +kernel
theorem dX2_takeData_42 : decode cX2_takeData 42 = .ok (.aload_n 0, 1) := by decide +kernel
theorem dX2_takeData_43 : decode cX2_takeData 43 = .ok (.aload_n 0, 1) := by decide +kernel
theorem dX2_takeData_44 : decode cX2_takeData 44 = .ok (.getfield 102, 3) := by decide +kernel
theorem dX2_takeData_47 : decode cX2_takeData 47 = .ok (.iload_n 2, 1) := by decide +kernel
theorem dX2_takeData_48 : decode cX2_takeData 48 = .ok (.iadd, 1) := by decide +kernel
theorem dX2_takeData_49 : decode cX2_takeData 49 = .ok (.aload_n 0, 1) := by decide +kernel
theorem dX2_takeData_50 : decode cX2_takeData 50 = .ok (.getfield 15, 3) := by decide +kernel
theorem dX2_takeData_53 : decode cX2_takeData 53 = .ok (.aload_n 0, 1) := by decide +kernel
theorem dX2_takeData_54 : decode cX2_takeData 54 = .ok (.getfield 105, 3) := by decide +kernel
theorem dX2_takeData_57 : decode cX2_takeData 57 = .ok (.iconst 2, 1) := by decide +kernel
theorem dX2_takeData_58 : decode cX2_takeData 58 = .ok (.iload_n 2, 1) := by decide +kernel
theorem dX2_takeData_59 : decode cX2_takeData 59 = .ok (.imul, 1) := by decide +kernel
theorem dX2_takeData_60 : decode cX2_takeData 60 = .ok (.iadd, 1) := by decide +kernel
theorem dX2_takeData_61 : decode cX2_takeData 61 = .ok (.invokevirtual 108, 3) := by decide +kernel
theorem dX2_takeData_64 : decode cX2_takeData 64 = .ok (.invokevirtual 69, 3) := by decide +kernel
theorem dX2_takeData_67 : decode cX2_takeData 67 = .ok (.iinc 2 1, 3) := by decide +kernel
theorem dX2_takeData_70 : decode cX2_takeData 70 = .ok (.goto (-36), 3) := by decide +kernel
theorem dX2_takeData_73 : decode cX2_takeData 73 = .ok (.return_, 1) := by decide +kernel
theorem dX2_isColonLine_0 : decode cX2_isColonLine 0 = .ok (.aload_n 0, 1) := by decide +kernel
theorem dX2_isColonLine_1 : decode cX2_isColonLine 1 = .ok (.getfield 15, 3) := by decide +kernel
theorem dX2_isColonLine_4 : decode cX2_isColonLine 4 = .ok (.iload_n 1, 1) := by decide +kernel
theorem dX2_isColonLine_5 : decode cX2_isColonLine 5 = .ok (.invokevirtual 65, 3) := by decide +kernel
theorem dX2_isColonLine_8 : decode cX2_isColonLine 8 = .ok (.bipush 58, 2) := by decide +kernel
theorem dX2_isColonLine_10 : decode cX2_isColonLine 10 = .ok (.if_icmp .ne 22, 3) := by decide +kernel
theorem dX2_isColonLine_13 : decode cX2_isColonLine 13 = .ok (.iload_n 2, 1) := by decide +kernel
theorem dX2_isColonLine_14 : decode cX2_isColonLine 14 = .ok (.iload_n 1, 1) := by decide +kernel
theorem dX2_isColonLine_15 : decode cX2_isColonLine 15 = .ok (.isub, 1) := by decide +kernel
theorem dX2_isColonLine_16 : decode cX2_isColonLine 16 = .ok (.bipush 11, 2) := by decide +kernel
theorem dX2_isColonLine_18 : decode cX2_isColonLine 18 = .ok (.if_icmp .lt 14, 3) := by decide +kernel
theorem dX2_isColonLine_21 : decode cX2_isColonLine 21 = .ok (.aload_n 0, 1) := by decide +kernel
theorem dX2_isColonLine_22 : decode cX2_isColonLine 22 = .ok (.iload_n 1, 1) := by decide +kernel
theorem dX2_isColonLine_23 : decode cX2_isColonLine 23 = .ok (.iconst 1, 1) := by decide +kernel
theorem dX2_isColonLine_24 : decode cX2_isColonLine 24 = .ok (.iadd, 1) := by decide +kernel
theorem dX2_isColonLine_25 : decode cX2_isColonLine 25 = .ok (.iload_n 2, 1) := by decide +kernel
theorem dX2_isColonLine_26 : decode cX2_isColonLine 26 = .ok (.invokevirtual 111, 3) := by decide +kernel
theorem dX2_isColonLine_29 : decode cX2_isColonLine 29 = .ok (.ifCond .ne 5, 3) := by decide +kernel
theorem dX2_isColonLine_32 : decode cX2_isColonLine 32 = .ok (.iconst 0, 1) := by decide +kernel
theorem dX2_isColonLine_33 : decode cX2_isColonLine 33 = .ok (.ireturn, 1) := by decide +kernel
theorem dX2_isColonLine_34 : decode cX2_isColonLine 34 = .ok (.aload_n 0, 1) := by decide +kernel
theorem dX2_isColonLine_35 : decode cX2_isColonLine 35 = .ok (.getfield 15, 3) := by decide +kernel
theorem dX2_isColonLine_38 : decode cX2_isColonLine 38 = .ok (.iload_n 1, 1) := by decide +kernel
theorem dX2_isColonLine_39 : decode cX2_isColonLine 39 = .ok (.iconst 1, 1) := by decide +kernel
theorem dX2_isColonLine_40 : decode cX2_isColonLine 40 = .ok (.iadd, 1) := by decide +kernel
theorem dX2_isColonLine_41 : decode cX2_isColonLine 41 = .ok (.invokevirtual 108, 3) := by decide +kernel
theorem dX2_isColonLine_44 : decode cX2_isColonLine 44 = .ok (.istore_n 3, 1) := by decide +kernel
theorem dX2_isColonLine_45 : decode cX2_isColonLine 45 = .ok (.aload_n 0, 1) := by decide +kernel
theorem dX2_isColonLine_46 : decode cX2_isColonLine 46 = .ok (.getfield 15, 3) := by decide +kernel
theorem dX2_isColonLine_49 : decode cX2_isColonLine 49 = .ok (.iload_n 1, 1) := by decide +kernel
theorem dX2_isColonLine_50 : decode cX2_isColonLine 50 = .ok (.bipush 7, 2) := by decide +kernel
theorem dX2_isColonLine_52 : decode cX2_isColonLine 52 = .ok (.iadd, 1) := by decide +kernel
theorem dX2_isColonLine_53 : decode cX2_isColonLine 53 = .ok (.invokevirtual 108, 3) := by decide +kernel
theorem dX2_isColonLine_56 : decode cX2_isColonLine 56 = .ok (.istore 4, 2) := by decide +kernel
theorem dX2_isColonLine_58 : decode cX2_isColonLine 58 = .ok (.aload_n 0, 1) := by decide +kernel
theorem dX2_isColonLine_59 : decode cX2_isColonLine 59 = .ok (.aload_n 0, 1) := by decide +kernel
theorem dX2_isColonLine_60 : decode cX2_isColonLine 60 = .ok (.getfield 15, 3) := by decide +kernel
theorem dX2_isColonLine_63 : decode cX2_isColonLine 63 = .ok (.iload_n 1, 1) := by decide +kernel
theorem dX2_isColonLine_64 : decode cX2_isColonLine 64 = .ok (.iconst 3, 1) := by decide +kernel
theorem dX2_isColonLine_65 : decode cX2_isColonLine 65 = .ok (.iadd, 1) := by decide +kernel
theorem dX2_isColonLine_66 : decode cX2_isColonLine 66 = .ok (.invokevirtual 108, 3) := by decide +kernel
theorem dX2_isColonLine_69 : decode cX2_isColonLine 69 = .ok (.sipush 256, 3) := by decide +kernel
theorem dX2_isColonLine_72 : decode cX2_isColonLine 72 = .ok (.imul, 1) := by decide +kernel
theorem dX2_isColonLine_73 : decode cX2_isColonLine 73 = .ok (.aload_n 0, 1) := by decide +kernel
theorem dX2_isColonLine_74 : decode cX2_isColonLine 74 = .ok (.getfield 15, 3) := by decide +kernel
theorem dX2_isColonLine_77 : decode cX2_isColonLine 77 = .ok (.iload_n 1, 1) := by decide +kernel
theorem dX2_isColonLine_78 : decode cX2_isColonLine 78 = .ok (.iconst 5, 1) := by decide +kernel
theorem dX2_isColonLine_79 : decode cX2_isColonLine 79 = .ok (.iadd, 1) := by decide +kernel
theorem dX2_isColonLine_80 : decode cX2_isColonLine 80 = .ok (.invokevirtual 108, 3) := by decide +kernel
theorem dX2_isColonLine_83 : decode cX2_isColonLine 83 = .ok (.iadd, 1) := by decide +kernel
theorem dX2_isColonLine_84 : decode cX2_isColonLine 84 = .ok (.putfield 102, 3) := by decide +kernel
theorem dX2_isColonLine_87 : decode cX2_isColonLine 87 = .ok (.aload_n 0, 1) := by decide +kernel
theorem dX2_isColonLine_88 : decode cX2_isColonLine 88 = .ok (.iload_n 1, 1) := by decide +kernel
theorem dX2_isColonLine_89 : decode cX2_isColonLine 89 = .ok (.bipush 9, 2) := by decide +kernel
theorem dX2_isColonLine_91 : decode cX2_isColonLine 91 = .ok (.iadd, 1) := by decide +kernel
theorem dX2_isColonLine_92 : decode cX2_isColonLine 92 = .ok (.putfield 105, 3) := by decide +kernel
theorem dX2_isColonLine_95 : decode cX2_isColonLine 95 = .ok (.aload_n 0, 1) := by decide +kernel
theorem dX2_isColonLine_96 : decode cX2_isColonLine 96 = .ok (.iload_n 3, 1) := by decide +kernel
theorem dX2_isColonLine_97 : decode cX2_isColonLine 97 = .ok (.putfield 99, 3) := by decide +kernel
theorem dX2_isColonLine_100 : decode cX2_isColonLine 100 = .ok (.aload_n 0, 1) := by decide +kernel
theorem dX2_isColonLine_101 : decode cX2_isColonLine 101 = .ok (.iload 4, 2) := by decide +kernel
theorem dX2_isColonLine_103 : decode cX2_isColonLine 103 = .ok (.ifCond .ne 7, 3) := by decide +kernel
theorem dX2_isColonLine_106 : decode cX2_isColonLine 106 = .ok (.iconst 0, 1) := by decide +kernel
theorem dX2_isColonLine_107 : decode cX2_isColonLine 107 = .ok (.goto 4, 3) := by decide +kernel
theorem dX2_isColonLine_110 : decode cX2_isColonLine 110 = .ok (.iconst 2, 1) := by decide +kernel
theorem dX2_isColonLine_111 : decode cX2_isColonLine 111 = .ok (.putfield 93, 3) := by decide +kernel
theorem dX2_isColonLine_114 : decode cX2_isColonLine 114 = .ok (.iload_n 2, 1) := by decide +kernel
theorem dX2_isColonLine_115 : decode cX2_isColonLine 115 = .ok (.iload_n 1, 1) := by decide +kernel
theorem dX2_isColonLine_116 : decode cX2_isColonLine 116 = .ok (.isub, 1) := by decide +kernel
theorem dX2_isColonLine_117 : decode cX2_isColonLine 117 = .ok (.bipush 11, 2) := by decide +kernel
theorem dX2_isColonLine_119 : decode cX2_isColonLine 119 = .ok (.iconst 2, 1) := by decide +kernel
theorem dX2_isColonLine_120 : decode cX2_isColonLine 120 = .ok (.iload_n 3, 1) := by decide +kernel
theorem dX2_isColonLine_121 : decode cX2_isColonLine 121 = .ok (.imul, 1) := by decide +kernel
theorem dX2_isColonLine_122 : decode cX2_isColonLine 122 = .ok (.iadd, 1) := by decide +kernel
theorem dX2_isColonLine_123 : decode cX2_isColonLine 123 = .ok (.if_icmp .ne 22, 3) := by decide +kernel
theorem dX2_isColonLine_126 : decode cX2_isColonLine 126 = .ok (.iload 4, 2) := by decide +kernel
theorem dX2_isColonLine_128 : decode cX2_isColonLine 128 = .ok (.ifCond .eq 13, 3) := by decide +kernel
theorem dX2_isColonLine_131 : decode cX2_isColonLine 131 = .ok (.iload 4, 2) := by decide +kernel
theorem dX2_isColonLine_133 : decode cX2_isColonLine 133 = .ok (.iconst 1, 1) := by decide +kernel
theorem dX2_isColonLine_134 : decode cX2_isColonLine 134 = .ok (.if_icmp .ne 11, 3) := by decide +kernel
theorem dX2_isColonLine_137 : decode cX2_isColonLine 137 = .ok (.iload_n 3, 1) := by decide +kernel
theorem dX2_isColonLine_138 : decode cX2_isColonLine 138 = .ok (.ifCond .ne 7, 3) := by decide +kernel
theorem dX2_isColonLine_141 : decode cX2_isColonLine 141 = .ok (.iconst 1, 1) := by decide +kernel
theorem dX2_isColonLine_142 : decode cX2_isColonLine 142 = .ok (.goto 4, 3) := by decide +kernel
theorem dX2_isColonLine_145 : decode cX2_isColonLine 145 = .ok (.iconst 0, 1) := by decide +kernel
theorem dX2_isColonLine_146 : decode cX2_isColonLine 146 = .ok (.ireturn, 1) := by decide +kernel
theorem dX2_isSLine_0 : decode cX2_isSLine 0 = .ok (.aload_n 0, 1) := by decide +kernel
theorem dX2_isSLine_1 : decode cX2_isSLine 1 = .ok (.getfield 15, 3) := by decide +kernel
theorem dX2_isSLine_4 : decode cX2_isSLine 4 = .ok (.iload_n 1, 1) := by decide +kernel
theorem dX2_isSLine_5 : decode cX2_isSLine 5 = .ok (.invokevirtual 65, 3) := by decide +kernel
theorem dX2_isSLine_8 : decode cX2_isSLine 8 = .ok (.bipush 83, 2) := by decide +kernel
theorem dX2_isSLine_10 : decode cX2_isSLine 10 = .ok (.if_icmp .ne 22, 3) := by decide +kernel
theorem dX2_isSLine_13 : decode cX2_isSLine 13 = .ok (.iload_n 2, 1) := by decide +kernel
theorem dX2_isSLine_14 : decode cX2_isSLine 14 = .ok (.iload_n 1, 1) := by decide +kernel
theorem dX2_isSLine_15 : decode cX2_isSLine 15 = .ok (.isub, 1) := by decide +kernel
theorem dX2_isSLine_16 : decode cX2_isSLine 16 = .ok (.bipush 10, 2) := by decide +kernel
theorem dX2_isSLine_18 : decode cX2_isSLine 18 = .ok (.if_icmp .lt 14, 3) := by decide +kernel
theorem dX2_isSLine_21 : decode cX2_isSLine 21 = .ok (.aload_n 0, 1) := by decide +kernel
theorem dX2_isSLine_22 : decode cX2_isSLine 22 = .ok (.iload_n 1, 1) := by decide +kernel
theorem dX2_isSLine_23 : decode cX2_isSLine 23 = .ok (.iconst 2, 1) := by decide +kernel
theorem dX2_isSLine_24 : decode cX2_isSLine 24 = .ok (.iadd, 1) := by decide +kernel
theorem dX2_isSLine_25 : decode cX2_isSLine 25 = .ok (.iload_n 2, 1) := by decide +kernel
theorem dX2_isSLine_26 : decode cX2_isSLine 26 = .ok (.invokevirtual 111, 3) := by decide +kernel
theorem dX2_isSLine_29 : decode cX2_isSLine 29 = .ok (.ifCond .ne 5, 3) := by decide +kernel
theorem dX2_isSLine_32 : decode cX2_isSLine 32 = .ok (.iconst 0, 1) := by decide +kernel
theorem dX2_isSLine_33 : decode cX2_isSLine 33 = .ok (.ireturn, 1) := by decide +kernel
theorem dX2_isSLine_34 : decode cX2_isSLine 34 = .ok (.aload_n 0, 1) := by decide +kernel
theorem dX2_isSLine_35 : decode cX2_isSLine 35 = .ok (.getfield 15, 3) := by decide +kernel
theorem dX2_isSLine_38 : decode cX2_isSLine 38 = .ok (.iload_n 1, 1) := by decide +kernel
theorem dX2_isSLine_39 : decode cX2_isSLine 39 = .ok (.iconst 1, 1) := by decide +kernel
theorem dX2_isSLine_40 : decode cX2_isSLine 40 = .ok (.iadd, 1) := by decide +kernel
theorem dX2_isSLine_41 : decode cX2_isSLine 41 = .ok (.invokevirtual 65, 3) := by decide +kernel
theorem dX2_isSLine_44 : decode cX2_isSLine 44 = .ok (.istore_n 3, 1) := by decide +kernel
theorem dX2_isSLine_45 : decode cX2_isSLine 45 = .ok (.aload_n 0, 1) := by decide +kernel
theorem dX2_isSLine_46 : decode cX2_isSLine 46 = .ok (.getfield 15, 3) := by decide +kernel
theorem dX2_isSLine_49 : decode cX2_isSLine 49 = .ok (.iload_n 1, 1) := by decide +kernel
theorem dX2_isSLine_50 : decode cX2_isSLine 50 = .ok (.iconst 2, 1) := by decide +kernel
theorem dX2_isSLine_51 : decode cX2_isSLine 51 = .ok (.iadd, 1) := by decide +kernel
theorem dX2_isSLine_52 : decode cX2_isSLine 52 = .ok (.invokevirtual 108, 3) := by decide +kernel
theorem dX2_isSLine_55 : decode cX2_isSLine 55 = .ok (.istore 4, 2) := by decide +kernel
theorem dX2_isSLine_57 : decode cX2_isSLine 57 = .ok (.aload_n 0, 1) := by decide +kernel
theorem dX2_isSLine_58 : decode cX2_isSLine 58 = .ok (.aload_n 0, 1) := by decide +kernel
theorem dX2_isSLine_59 : decode cX2_isSLine 59 = .ok (.getfield 15, 3) := by decide +kernel
theorem dX2_isSLine_62 : decode cX2_isSLine 62 = .ok (.iload_n 1, 1) := by decide +kernel
theorem dX2_isSLine_63 : decode cX2_isSLine 63 = .ok (.iconst 4, 1) := by decide +kernel
theorem dX2_isSLine_64 : decode cX2_isSLine 64 = .ok (.iadd, 1) := by decide +kernel
theorem dX2_isSLine_65 : decode cX2_isSLine 65 = .ok (.invokevirtual 108, 3) := by decide +kernel
theorem dX2_isSLine_68 : decode cX2_isSLine 68 = .ok (.sipush 256, 3) := by decide +kernel
theorem dX2_isSLine_71 : decode cX2_isSLine 71 = .ok (.imul, 1) := by decide +kernel
theorem dX2_isSLine_72 : decode cX2_isSLine 72 = .ok (.aload_n 0, 1) := by decide +kernel
theorem dX2_isSLine_73 : decode cX2_isSLine 73 = .ok (.getfield 15, 3) := by decide +kernel
theorem dX2_isSLine_76 : decode cX2_isSLine 76 = .ok (.iload_n 1, 1) := by decide +kernel
theorem dX2_isSLine_77 : decode cX2_isSLine 77 = .ok (.bipush 6, 2) := by decide +kernel
theorem dX2_isSLine_79 : decode cX2_isSLine 79 = .ok (.iadd, 1) := by decide +kernel
theorem dX2_isSLine_80 : decode cX2_isSLine 80 = .ok (.invokevirtual 108, 3) := by decide +kernel
theorem dX2_isSLine_83 : decode cX2_isSLine 83 = .ok (.iadd, 1) := by decide +kernel
theorem dX2_isSLine_84 : decode cX2_isSLine 84 = .ok (.putfield 102, 3) := by decide +kernel
theorem dX2_isSLine_87 : decode cX2_isSLine 87 = .ok (.aload_n 0, 1) := by decide +kernel
theorem dX2_isSLine_88 : decode cX2_isSLine 88 = .ok (.iload_n 1, 1) := by decide +kernel
theorem dX2_isSLine_89 : decode cX2_isSLine 89 = .ok (.bipush 8, 2) := by decide +kernel
theorem dX2_isSLine_91 : decode cX2_isSLine 91 = .ok (.iadd, 1) := by decide +kernel
theorem dX2_isSLine_92 : decode cX2_isSLine 92 = .ok (.putfield 105, 3) := by decide +kernel
theorem dX2_isSLine_95 : decode cX2_isSLine 95 = .ok (.aload_n 0, 1) := by decide +kernel
theorem dX2_isSLine_96 : decode cX2_isSLine 96 = .ok (.iload 4, 2) := by decide +kernel
theorem dX2_isSLine_98 : decode cX2_isSLine 98 = .ok (.iconst 3, 1) := by decide +kernel
theorem dX2_isSLine_99 : decode cX2_isSLine 99 = .ok (.isub, 1) := by decide +kernel
theorem dX2_isSLine_100 : decode cX2_isSLine 100 = .ok (.putfield 99, 3) := by decide +kernel
theorem dX2_isSLine_103 : decode cX2_isSLine 103 = .ok (.aload_n 0, 1) := by decide +kernel
theorem dX2_isSLine_104 : decode cX2_isSLine 104 = .ok (.iload_n 3, 1) := by decide +kernel
theorem dX2_isSLine_105 : decode cX2_isSLine 105 = .ok (.bipush 49, 2) := by decide +kernel
theorem dX2_isSLine_107 : decode cX2_isSLine 107 = .ok (.if_icmp .ne 7, 3) := by decide +kernel
theorem dX2_isSLine_110 : decode cX2_isSLine 110 = .ok (.iconst 0, 1) := by decide +kernel
theorem dX2_isSLine_111 : decode cX2_isSLine 111 = .ok (.goto 14, 3) := by decide +kernel
theorem dX2_isSLine_114 : decode cX2_isSLine 114 = .ok (.iload_n 3, 1) := by decide +kernel
theorem dX2_isSLine_115 : decode cX2_isSLine 115 = .ok (.bipush 48, 2) := by decide +kernel
theorem dX2_isSLine_117 : decode cX2_isSLine 117 = .ok (.if_icmp .ne 7, 3) := by decide +kernel
theorem dX2_isSLine_120 : decode cX2_isSLine 120 = .ok (.iconst 1, 1) := by decide +kernel
theorem dX2_isSLine_121 : decode cX2_isSLine 121 = .ok (.goto 4, 3) := by decide +kernel
theorem dX2_isSLine_124 : decode cX2_isSLine 124 = .ok (.iconst 2, 1) := by decide +kernel
theorem dX2_isSLine_125 : decode cX2_isSLine 125 = .ok (.putfield 93, 3) := by decide +kernel
theorem dX2_isSLine_128 : decode cX2_isSLine 128 = .ok (.iload_n 2, 1) := by decide +kernel
theorem dX2_isSLine_129 : decode cX2_isSLine 129 = .ok (.iload_n 1, 1) := by decide +kernel
theorem dX2_isSLine_130 : decode cX2_isSLine 130 = .ok (.isub, 1) := by decide +kernel
theorem dX2_isSLine_131 : decode cX2_isSLine 131 = .ok (.iconst 4, 1) := by decide +kernel
theorem dX2_isSLine_132 : decode cX2_isSLine 132 = .ok (.iconst 2, 1) := by decide +kernel
theorem dX2_isSLine_133 : decode cX2_isSLine 133 = .ok (.iload 4, 2) := by decide +kernel
theorem dX2_isSLine_135 : decode cX2_isSLine 135 = .ok (.imul, 1) := by decide +kernel
theorem dX2_isSLine_136 : decode cX2_isSLine 136 = .ok (.iadd, 1) := by decide +kernel
theorem dX2_isSLine_137 : decode cX2_isSLine 137 = .ok (.if_icmp .ne 31, 3) := by decide +kernel
theorem dX2_isSLine_140 : decode cX2_isSLine 140 = .ok (.iload_n 3, 1) := by decide +kernel
theorem dX2_isSLine_141 : decode cX2_isSLine 141 = .ok (.bipush 48, 2) := by decide +kernel
theorem dX2_isSLine_143 : decode cX2_isSLine 143 = .ok (.if_icmp .eq 21, 3) := by decide +kernel
theorem dX2_isSLine_146 : decode cX2_isSLine 146 = .ok (.iload_n 3, 1) := by decide +kernel
theorem dX2_isSLine_147 : decode cX2_isSLine 147 = .ok (.bipush 49, 2) := by decide +kernel
theorem dX2_isSLine_149 : decode cX2_isSLine 149 = .ok (.if_icmp .eq 15, 3) := by decide +kernel
theorem dX2_isSLine_152 : decode cX2_isSLine 152 = .ok (.iload_n 3, 1) := by decide +kernel
theorem dX2_isSLine_153 : decode cX2_isSLine 153 = .ok (.bipush 57, 2) := by decide +kernel
theorem dX2_isSLine_155 : decode cX2_isSLine 155 = .ok (.if_icmp .ne 13, 3) := by decide +kernel
theorem dX2_isSLine_158 : decode cX2_isSLine 158 = .ok (.iload 4, 2) := by decide +kernel
theorem dX2_isSLine_160 : decode cX2_isSLine 160 = .ok (.iconst 3, 1) := by decide +kernel
theorem dX2_isSLine_161 : decode cX2_isSLine 161 = .ok (.if_icmp .ne 7, 3) := by decide +kernel
theorem dX2_isSLine_164 : decode cX2_isSLine 164 = .ok (.iconst 1, 1) := by decide +kernel
theorem dX2_isSLine_165 : decode cX2_isSLine 165 = .ok (.goto 4, 3) := by decide +kernel
theorem dX2_isSLine_168 : decode cX2_isSLine 168 = .ok (.iconst 0, 1) := by decide +kernel
theorem dX2_isSLine_169 : decode cX2_isSLine 169 = .ok (.ireturn, 1) := by decide +kernel
theorem dX2_areDigits_0 : decode cX2_areDigits 0 = .ok (.iload_n 1, 1) := by decide +kernel
theorem dX2_areDigits_1 : decode cX2_areDigits 1 = .ok (.istore_n 3, 1) := by decide +kernel
theorem dX2_areDigits_2 : decode cX2_areDigits 2 = .ok (.iload_n 3, 1) := by decide +kernel
theorem dX2_areDigits_3 : decode cX2_areDigits 3 = .ok (.iload_n 2, 1) := by decide +kernel
theorem dX2_areDigits_4 : decode cX2_areDigits 4 = .ok (.if_icmp .ge 23, 3) := by decide +kernel
theorem dX2_areDigits_7 : decode cX2_areDigits 7 = .ok (.aload_n 0, 1) := by decide +kernel
theorem dX2_areDigits_8 : decode cX2_areDigits 8 = .ok (.getfield 15, 3) := by decide +kernel
theorem dX2_areDigits_11 : decode cX2_areDigits 11 = .ok (.iload_n 3, 1) := by decide +kernel
theorem dX2_areDigits_12 : decode cX2_areDigits 12 = .ok (.invokevirtual 114, 3) := by decide +kernel
theorem dX2_areDigits_15 : decode cX2_areDigits 15 = .ok (.iconst (-1), 1) := by decide +kernel
theorem dX2_areDigits_16 : decode cX2_areDigits 16 = .ok (.if_icmp .ne 5, 3) := by decide +kernel
theorem dX2_areDigits_19 : decode cX2_areDigits 19 = .ok (.iconst 0, 1) := by decide +kernel
theorem dX2_areDigits_20 : decode cX2_areDigits 20 = .ok (.ireturn, 1) := by decide +kernel
theorem dX2_areDigits_21 : decode cX2_areDigits 21 = .ok (.iinc 3 1, 3) := by decide +kernel
theorem dX2_areDigits_24 : decode cX2_areDigits 24 = .ok (.goto (-22), 3) := by decide +kernel
theorem dX2_areDigits_27 : decode cX2_areDigits 27 = .ok (.iconst 1, 1) := by decide +kernel
theorem dX2_areDigits_28 : decode cX2_areDigits 28 = .ok (.ireturn, 1) := by decide +kernel
theorem dX2_sumOf_0 : decode cX2_sumOf 0 = .ok (.iconst 0, 1) := by decide +kernel
theorem dX2_sumOf_1 : decode cX2_sumOf 1 = .ok (.istore_n 3, 1) := by decide +kernel
theorem dX2_sumOf_2 : decode cX2_sumOf 2 = .ok (.iload_n 1, 1) := by decide +kernel
theorem dX2_sumOf_3 : decode cX2_sumOf 3 = .ok (.istore 4, 2) := by decide +kernel
theorem dX2_sumOf_5 : decode cX2_sumOf 5 = .ok (.iload 4, 2) := by decide +kernel
theorem dX2_sumOf_7 : decode cX2_sumOf 7 = .ok (.iload_n 2, 1) := by decide +kernel
theorem dX2_sumOf_8 : decode cX2_sumOf 8 = .ok (.if_icmp .ge 21, 3) := by decide +kernel
theorem dX2_sumOf_11 : decode cX2_sumOf 11 = .ok (.iload_n 3, 1) := by decide +kernel
theorem dX2_sumOf_12 : decode cX2_sumOf 12 = .ok (.aload_n 0, 1) := by decide +kernel
theorem dX2_sumOf_13 : decode cX2_sumOf 13 = .ok (.getfield 15, 3) := by decide +kernel
theorem dX2_sumOf_16 : decode cX2_sumOf 16 = .ok (.iload 4, 2) := by decide +kernel
theorem dX2_sumOf_18 : decode cX2_sumOf 18 = .ok (.invokevirtual 108, 3) := by decide +kernel
theorem dX2_sumOf_21 : decode cX2_sumOf 21 = .ok (.iadd, 1) := by decide +kernel
theorem dX2_sumOf_22 : decode cX2_sumOf 22 = .ok (.istore_n 3, 1) := by decide +kernel
theorem dX2_sumOf_23 : decode cX2_sumOf 23 = .ok (.iinc 4 2, 3) := by decide +kernel
theorem dX2_sumOf_26 : decode cX2_sumOf 26 = .ok (.goto (-21), 3) := by decide +kernel
theorem dX2_sumOf_29 : decode cX2_sumOf 29 = .ok (.iload_n 3, 1) := by decide +kernel
theorem dX2_sumOf_30 : decode cX2_sumOf 30 = .ok (.ireturn, 1) := by decide +kernel
theorem dX2_stage_0 : decode cX2_stage 0 = .ok (.iload_n 1, 1) := by decide +kernel
theorem dX2_stage_1 : decode cX2_stage 1 = .ok (.ifCond .lt 27, 3) := by decide +kernel
theorem dX2_stage_4 : decode cX2_stage 4 = .ok (.iload_n 1, 1) := by decide +kernel
theorem dX2_stage_5 : decode cX2_stage 5 = .ok (.sipush 256, 3) := by decide +kernel
theorem dX2_stage_8 : decode cX2_stage 8 = .ok (.if_icmp .ge 20, 3) := by decide +kernel
theorem dX2_stage_11 : decode cX2_stage 11 = .ok (.aload_n 0, 1) := by decide +kernel
theorem dX2_stage_12 : decode cX2_stage 12 = .ok (.getfield 9, 3) := by decide +kernel
theorem dX2_stage_15 : decode cX2_stage 15 = .ok (.iload_n 1, 1) := by decide +kernel
theorem dX2_stage_16 : decode cX2_stage 16 = .ok (.iload_n 2, 1) := by decide +kernel
theorem dX2_stage_17 : decode cX2_stage 17 = .ok (.iastore, 1) := by decide +kernel
theorem dX2_stage_18 : decode cX2_stage 18 = .ok (.aload_n 0, 1) := by decide +kernel
theorem dX2_stage_19 : decode cX2_stage 19 = .ok (.dup, 1) := by decide +kernel
theorem dX2_stage_20 : decode cX2_stage 20 = .ok (.getfield 40, 3) := by decide +kernel
theorem dX2_stage_23 : decode cX2_stage 23 = .ok (.iconst 1, 1) := by decide +kernel
theorem dX2_stage_24 : decode cX2_stage 24 = .ok (.iadd, 1) := by decide +kernel
theorem dX2_stage_25 : decode cX2_stage 25 = .ok (.putfield 40, 3) := by decide +kernel
theorem dX2_stage_28 : decode cX2_stage 28 = .ok (.return_, 1) := by decide +kernel
theorem dX3_init_0 : decode cX3_init 0 = .ok (.aload_n 0, 1) := by decide +kernel
theorem dX3_init_1 : decode cX3_init 1 = .ok (.invokespecial 3, 3) := by decide +kernel
theorem dX3_init_4 : decode cX3_init 4 = .ok (.aload_n 0, 1) := by decide +kernel
theorem dX3_init_5 : decode cX3_init 5 = .ok (.aload_n 1, 1) := by decide +kernel
theorem dX3_init_6 : decode cX3_init 6 = .ok (.putfield 9, 3) := by decide +kernel
theorem dX3_init_9 : decode cX3_init 9 = .ok (.return_, 1) := by decide +kernel
theorem dX3_lengthOf_0 : decode cX3_lengthOf 0 = .ok (.iload_n 1, 1) := by decide +kernel
theorem dX3_lengthOf_1 : decode cX3_lengthOf 1 = .ok (.iconst 1, 1) := by decide +kernel
theorem dX3_lengthOf_2 : decode cX3_lengthOf 2 = .ok (.if_icmp .ne 8, 3) := by decide +kernel
theorem dX3_lengthOf_5 : decode cX3_lengthOf 5 = .ok (.bipush 12, 2) := by decide +kernel
theorem dX3_lengthOf_7 : decode cX3_lengthOf 7 = .ok (.goto 5, 3) := by decide +kernel
theorem dX3_lengthOf_10 : decode cX3_lengthOf 10 = .ok (.bipush 11, 2) := by decide +kernel
theorem dX3_lengthOf_12 : decode cX3_lengthOf 12 = .ok (.istore_n 3, 1) := by decide +kernel
theorem dX3_lengthOf_13 : decode cX3_lengthOf 13 = .ok (.iload_n 2, 1) := by decide +kernel
theorem dX3_lengthOf_14 : decode cX3_lengthOf 14 = .ok (.bipush 16, 2) := by decide +kernel
theorem dX3_lengthOf_16 : decode cX3_lengthOf 16 = .ok (.iadd, 1) := by decide +kernel
theorem dX3_lengthOf_17 : decode cX3_lengthOf 17 = .ok (.iconst 1, 1) := by decide +kernel
theorem dX3_lengthOf_18 : decode cX3_lengthOf 18 = .ok (.isub, 1) := by decide +kernel
theorem dX3_lengthOf_19 : decode cX3_lengthOf 19 = .ok (.bipush 16, 2) := by decide +kernel
theorem dX3_lengthOf_21 : decode cX3_lengthOf 21 = .ok (.idiv, 1) := by decide +kernel
theorem dX3_lengthOf_22 : decode cX3_lengthOf 22 = .ok (.istore 4, 2) := by decide +kernel
theorem dX3_lengthOf_24 : decode cX3_lengthOf 24 = .ok (.iload 4, 2) := by decide +kernel
theorem dX3_lengthOf_26 : decode cX3_lengthOf 26 = .ok (.iconst 1, 1) := by decide +kernel
theorem dX3_lengthOf_27 : decode cX3_lengthOf 27 = .ok (.iadd, 1) := by decide +kernel
theorem dX3_lengthOf_28 : decode cX3_lengthOf 28 = .ok (.iload_n 3, 1) := by decide +kernel
theorem dX3_lengthOf_29 : decode cX3_lengthOf 29 = .ok (.imul, 1) := by decide +kernel
theorem dX3_lengthOf_30 : decode cX3_lengthOf 30 = .ok (.iconst 2, 1) := by decide +kernel
theorem dX3_lengthOf_31 : decode cX3_lengthOf 31 = .ok (.iload_n 2, 1) := by decide +kernel
theorem dX3_lengthOf_32 : decode cX3_lengthOf 32 = .ok (.imul, 1) := by decide +kernel
theorem dX3_lengthOf_33 : decode cX3_lengthOf 33 = .ok (.iadd, 1) := by decide +kernel
theorem dX3_lengthOf_34 : decode cX3_lengthOf 34 = .ok (.ireturn, 1) := by decide +kernel
theorem dX3_writeOut_0 : decode cX3_writeOut 0 = .ok (.aload_n 0, 1) := by decide +kernel
theorem dX3_writeOut_1 : decode cX3_writeOut 1 = .ok (.getfield 9, 3) := by decide +kernel
theorem dX3_writeOut_4 : decode cX3_writeOut 4 = .ok (.iconst 0, 1) := by decide +kernel
theorem dX3_writeOut_5 : decode cX3_writeOut 5 = .ok (.invokevirtual 15, 3) := by decide +kernel
theorem dX3_writeOut_8 : decode cX3_writeOut 8 = .ok (.pop, 1) := by decide +kernel
theorem dX3_writeOut_9 : decode cX3_writeOut 9 = .ok (.iload_n 3, 1) := by decide +kernel
theorem dX3_writeOut_10 : decode cX3_writeOut 10 = .ok (.istore 5, 2) := by decide +kernel
theorem dX3_writeOut_12 : decode cX3_writeOut 12 = .ok (.iload 5, 2) := by decide +kernel
theorem dX3_writeOut_14 : decode cX3_writeOut 14 = .ok (.iload 4, 2) := by decide +kernel
theorem dX3_writeOut_16 : decode cX3_writeOut 16 = .ok (.if_icmp .gt 91, 3) := by decide +kernel
theorem dX3_writeOut_19 : decode cX3_writeOut 19 = .ok (.bipush 16, 2) := by decide +kernel
theorem dX3_writeOut_21 : decode cX3_writeOut 21 = .ok (.iload 4, 2) := by decide +kernel
theorem dX3_writeOut_23 : decode cX3_writeOut 23 = .ok (.iload 5, 2) := by decide +kernel
theorem dX3_writeOut_25 : decode cX3_writeOut 25 = .ok (.isub, 1) := by decide +kernel
theorem dX3_writeOut_26 : decode cX3_writeOut 26 = .ok (.iconst 1, 1) := by decide +kernel
theorem dX3_writeOut_27 : decode cX3_writeOut 27 = .ok (.iadd, 1) := by decide +kernel
theorem dX3_writeOut_28 : decode cX3_writeOut 28 = .ok (.invokestatic 21, 3) := by decide +kernel
theorem dX3_writeOut_31 : decode cX3_writeOut 31 = .ok (.istore 6, 2) := by decide +kernel
theorem dX3_writeOut_33 : decode cX3_writeOut 33 = .ok (.aload_n 0, 1) := by decide +kernel
theorem dX3_writeOut_34 : decode cX3_writeOut 34 = .ok (.iload_n 2, 1) := by decide +kernel
theorem dX3_writeOut_35 : decode cX3_writeOut 35 = .ok (.iload_n 2, 1) := by decide +kernel
theorem dX3_writeOut_36 : decode cX3_writeOut 36 = .ok (.iconst 1, 1) := by decide +kernel
theorem dX3_writeOut_37 : decode cX3_writeOut 37 = .ok (.if_icmp .ne 7, 3) := by decide +kernel
theorem dX3_writeOut_40 : decode cX3_writeOut 40 = .ok (.iconst 0, 1) := by decide +kernel
theorem dX3_writeOut_41 : decode cX3_writeOut 41 = .ok (.goto 4, 3) := by decide +kernel
theorem dX3_writeOut_44 : decode cX3_writeOut 44 = .ok (.iconst 1, 1) := by decide +kernel
theorem dX3_writeOut_45 : decode cX3_writeOut 45 = .ok (.iload 5, 2) := by decide +kernel
theorem dX3_writeOut_47 : decode cX3_writeOut 47 = .ok (.iload 6, 2) := by decide +kernel
theorem dX3_writeOut_49 : decode cX3_writeOut 49 = .ok (.invokevirtual 27, 3) := by decide +kernel
theorem dX3_writeOut_52 : decode cX3_writeOut 52 = .ok (.iload 5, 2) := by decide +kernel
theorem dX3_writeOut_54 : decode cX3_writeOut 54 = .ok (.istore 7, 2) := by decide +kernel
theorem dX3_writeOut_56 : decode cX3_writeOut 56 = .ok (.iload 7, 2) := by decide +kernel
theorem dX3_writeOut_58 : decode cX3_writeOut 58 = .ok (.iload 5, 2) := by decide +kernel
theorem dX3_writeOut_60 : decode cX3_writeOut 60 = .ok (.iload 6, 2) := by decide +kernel
theorem dX3_writeOut_62 : decode cX3_writeOut 62 = .ok (.iadd, 1) := by decide +kernel
theorem dX3_writeOut_63 : decode cX3_writeOut 63 = .ok (.if_icmp .ge 33, 3) := by decide +kernel
theorem dX3_writeOut_66 : decode cX3_writeOut 66 = .ok (.iload 7, 2) := by decide +kernel
theorem dX3_writeOut_68 : decode cX3_writeOut 68 = .ok (.aload_n 1, 1) := by decide +kernel
theorem dX3_writeOut_69 : decode cX3_writeOut 69 = .ok (.arraylength, 1) := by decide +kernel
theorem dX3_writeOut_70 : decode cX3_writeOut 70 = .ok (.if_icmp .ge 26, 3) := by decide +kernel
theorem dX3_writeOut_73 : decode cX3_writeOut 73 = .ok (.aload_n 0, 1) := by decide +kernel
theorem dX3_writeOut_74 : decode cX3_writeOut 74 = .ok (.iload 7, 2) := by decide +kernel
theorem dX3_writeOut_76 : decode cX3_writeOut 76 = .ok (.ifCond .lt 10, 3) := by decide +kernel
theorem dX3_writeOut_79 : decode cX3_writeOut 79 = .ok (.aload_n 1, 1) := by decide +kernel
theorem dX3_writeOut_80 : decode cX3_writeOut 80 = .ok (.iload 7, 2) := by decide +kernel
theorem dX3_writeOut_82 : decode cX3_writeOut 82 = .ok (.iaload, 1) := by decide +kernel
theorem dX3_writeOut_83 : decode cX3_writeOut 83 = .ok (.goto 4, 3) := by decide +kernel
theorem dX3_writeOut_86 : decode cX3_writeOut 86 = .ok (.iconst 0, 1) := by decide +kernel
theorem dX3_writeOut_87 : decode cX3_writeOut 87 = .ok (.invokevirtual 31, 3) := by decide +kernel
theorem dX3_writeOut_90 : decode cX3_writeOut 90 = .ok (.iinc 7 1, 3) := by decide +kernel
theorem dX3_writeOut_93 : decode cX3_writeOut 93 = .ok (.goto (-37), 3) := by decide +kernel
theorem dX3_writeOut_96 : decode cX3_writeOut 96 = .ok (.aload_n 0, 1) := by decide +kernel
theorem dX3_writeOut_97 : decode cX3_writeOut 97 = .ok (.iload_n 2, 1) := by decide +kernel
theorem dX3_writeOut_98 : decode cX3_writeOut 98 = .ok (.invokevirtual 35, 3) := by decide +kernel
theorem dX3_writeOut_101 : decode cX3_writeOut 101 = .ok (.iinc 5 16, 3) := by decide +kernel
theorem dX3_writeOut_104 : decode cX3_writeOut 104 = .ok (.goto (-92), 3) := by decide +kernel
theorem dX3_writeOut_107 : decode cX3_writeOut 107 = .ok (.aload_n 0, 1) := by decide +kernel
theorem dX3_writeOut_108 : decode cX3_writeOut 108 = .ok (.iload_n 2, 1) := by decide +kernel
theorem dX3_writeOut_109 : decode cX3_writeOut 109 = .ok (.iload_n 2, 1) := by decide +kernel
theorem dX3_writeOut_110 : decode cX3_writeOut 110 = .ok (.iconst 1, 1) := by decide +kernel
theorem dX3_writeOut_111 : decode cX3_writeOut 111 = .ok (.if_icmp .ne 7, 3) := by decide +kernel
theorem dX3_writeOut_114 : decode cX3_writeOut 114 = .ok (.iconst 1, 1) := by decide +kernel
theorem dX3_writeOut_115 : decode cX3_writeOut 115 = .ok (.goto 5, 3) := by decide +kernel
theorem dX3_writeOut_118 : decode cX3_writeOut 118 = .ok (.bipush 9, 2) := by decide +kernel
theorem dX3_writeOut_120 : decode cX3_writeOut 120 = .ok (.iconst 0, 1) := by decide +kernel
theorem dX3_writeOut_121 : decode cX3_writeOut 121 = .ok (.iconst 0, 1) := by decide +kernel
theorem dX3_writeOut_122 : decode cX3_writeOut 122 = .ok (.invokevirtual 27, 3) := by decide +kernel
theorem dX3_writeOut_125 : decode cX3_writeOut 125 = .ok (.aload_n 0, 1) := by decide +kernel
theorem dX3_writeOut_126 : decode cX3_writeOut 126 = .ok (.iload_n 2, 1) := by decide +kernel
theorem dX3_writeOut_127 : decode cX3_writeOut 127 = .ok (.invokevirtual 35, 3) := by decide +kernel
theorem dX3_writeOut_130 : decode cX3_writeOut 130 = .ok (.return_, 1) := by decide +kernel
theorem dX3_startLine_0 : decode cX3_startLine 0 = .ok (.aload_n 0, 1) := by decide +kernel
theorem dX3_startLine_1 : decode cX3_startLine 1 = .ok (.iconst 0, 1) := by decide +kernel
theorem dX3_startLine_2 : decode cX3_startLine 2 = .ok (.putfield 38, 3) := by decide +kernel
theorem dX3_startLine_5 : decode cX3_startLine 5 = .ok (.iload_n 1, 1) := by decide +kernel
theorem dX3_startLine_6 : decode cX3_startLine 6 = .ok (.iconst 1, 1) := by decide +kernel
theorem dX3_startLine_7 : decode cX3_startLine 7 = .ok (.if_icmp .ne 31, 3) := by decide +kernel
theorem dX3_startLine_10 : decode cX3_startLine 10 = .ok (.aload_n 0, 1) := by decide +kernel
theorem dX3_startLine_11 : decode cX3_startLine 11 = .ok (.getfield 9, 3) := by decide +kernel
theorem dX3_startLine_14 : decode cX3_startLine 14 = .ok (.bipush 58, 2) := by decide +kernel
theorem dX3_startLine_16 : decode cX3_startLine 16 = .ok (.invokevirtual 42, 3) := by decide +kernel
theorem dX3_startLine_19 : decode cX3_startLine 19 = .ok (.aload_n 0, 1) := by decide +kernel
theorem dX3_startLine_20 : decode cX3_startLine 20 = .ok (.iload 4, 2) := by decide +kernel
theorem dX3_startLine_22 : decode cX3_startLine 22 = .ok (.invokevirtual 31, 3) := by decide +kernel
theorem dX3_startLine_25 : decode cX3_startLine 25 = .ok (.aload_n 0, 1) := by decide +kernel
theorem dX3_startLine_26 : decode cX3_startLine 26 = .ok (.iload_n 3, 1) := by decide +kernel
theorem dX3_startLine_27 : decode cX3_startLine 27 = .ok (.invokevirtual 45, 3) := by decide +kernel
theorem dX3_startLine_30 : decode cX3_startLine 30 = .ok (.aload_n 0, 1) := by decide +kernel
theorem dX3_startLine_31 : decode cX3_startLine 31 = .ok (.iload_n 2, 1) := by decide +kernel
theorem dX3_startLine_32 : decode cX3_startLine 32 = .ok (.invokevirtual 31, 3) := by decide +kernel
theorem dX3_startLine_35 : decode cX3_startLine 35 = .ok (.goto 33, 3) := by decide +kernel
theorem dX3_startLine_38 : decode cX3_startLine 38 = .ok (.aload_n 0, 1) := by decide +kernel
theorem dX3_startLine_39 : decode cX3_startLine 39 = .ok (.getfield 9, 3) := by decide +kernel
theorem dX3_startLine_42 : decode cX3_startLine 42 = .ok (.bipush 83, 2) := by decide +kernel
theorem dX3_startLine_44 : decode cX3_startLine 44 = .ok (.invokevirtual 42, 3) := by decide +kernel
theorem dX3_startLine_47 : decode cX3_startLine 47 = .ok (.aload_n 0, 1) := by decide +kernel
theorem dX3_startLine_48 : decode cX3_startLine 48 = .ok (.getfield 9, 3) := by decide +kernel
theorem dX3_startLine_51 : decode cX3_startLine 51 = .ok (.iload_n 2, 1) := by decide +kernel
theorem dX3_startLine_52 : decode cX3_startLine 52 = .ok (.invokevirtual 48, 3) := by decide +kernel
theorem dX3_startLine_55 : decode cX3_startLine 55 = .ok (.aload_n 0, 1) := by decide +kernel
theorem dX3_startLine_56 : decode cX3_startLine 56 = .ok (.iload 4, 2) := by decide +kernel
theorem dX3_startLine_58 : decode cX3_startLine 58 = .ok (.iconst 3, 1) := by decide +kernel
theorem dX3_startLine_59 : decode cX3_startLine 59 = .ok (.iadd, 1) := by decide +kernel
theorem dX3_startLine_60 : decode cX3_startLine 60 = .ok (.invokevirtual 31, 3) := by decide +kernel
theorem dX3_startLine_63 : decode cX3_startLine 63 = .ok (.aload_n 0, 1) := by decide +kernel
theorem dX3_startLine_64 : decode cX3_startLine 64 = .ok (.iload_n 3, 1) := by decide +kernel
theorem dX3_startLine_65 : decode cX3_startLine 65 = .ok (.invokevirtual 45, 3) := by decide +kernel
theorem dX3_startLine_68 : decode cX3_startLine 68 = .ok (.return_, 1) := by decide +kernel
theorem dX3_stopLine_0 : decode cX3_stopLine 0 = .ok (.aload_n 0, 1) := by decide +kernel
theorem dX3_stopLine_1 : decode cX3_stopLine 1 = .ok (.iload_n 1, 1) := by decide +kernel
theorem dX3_stopLine_2 : decode cX3_stopLine 2 = .ok (.iconst 1, 1) := by decide +kernel
theorem dX3_stopLine_3 : decode cX3_stopLine 3 = .ok (.if_icmp .ne 7, 3) := by decide +kernel
theorem dX3_stopLine_6 : decode cX3_stopLine 6 = .ok (.iconst 0, 1) := by decide +kernel
theorem dX3_stopLine_7 : decode cX3_stopLine 7 = .ok (.goto 6, 3) := by decide +kernel
theorem dX3_stopLine_10 : decode cX3_stopLine 10 = .ok (.sipush 255, 3) := by decide +kernel
theorem dX3_stopLine_13 : decode cX3_stopLine 13 = .ok (.aload_n 0, 1) := by decide +kernel
theorem dX3_stopLine_14 : decode cX3_stopLine 14 = .ok (.getfield 38, 3) := by decide +kernel
theorem dX3_stopLine_17 : decode cX3_stopLine 17 = .ok (.isub, 1) := by decide +kernel
theorem dX3_stopLine_18 : decode cX3_stopLine 18 = .ok (.sipush 255, 3) := by decide +kernel
theorem dX3_stopLine_21 : decode cX3_stopLine 21 = .ok (.iand, 1) := by decide +kernel
theorem dX3_stopLine_22 : decode cX3_stopLine 22 = .ok (.invokevirtual 31, 3) := by decide +kernel
theorem dX3_stopLine_25 : decode cX3_stopLine 25 = .ok (.aload_n 0, 1) := by decide +kernel
theorem dX3_stopLine_26 : decode cX3_stopLine 26 = .ok (.getfield 9, 3) := by decide +kernel
theorem dX3_stopLine_29 : decode cX3_stopLine 29 = .ok (.bipush 10, 2) := by decide +kernel
theorem dX3_stopLine_31 : decode cX3_stopLine 31 = .ok (.invokevirtual 42, 3) := by decide +kernel
theorem dX3_stopLine_34 : decode cX3_stopLine 34 = .ok (.return_, 1) := by decide +kernel
theorem dX3_addAddress_0 : decode cX3_addAddress 0 = .ok (.aload_n 0, 1) := by decide +kernel
theorem dX3_addAddress_1 : decode cX3_addAddress 1 = .ok (.iload_n 1, 1) := by decide +kernel
theorem dX3_addAddress_2 : decode cX3_addAddress 2 = .ok (.bipush 8, 2) := by decide +kernel
theorem dX3_addAddress_4 : decode cX3_addAddress 4 = .ok (.ishr, 1) := by decide +kernel
theorem dX3_addAddress_5 : decode cX3_addAddress 5 = .ok (.invokevirtual 31, 3) := by decide +kernel
theorem dX3_addAddress_8 : decode cX3_addAddress 8 = .ok (.aload_n 0, 1) := by decide +kernel
theorem dX3_addAddress_9 : decode cX3_addAddress 9 = .ok (.iload_n 1, 1) := by decide +kernel
theorem dX3_addAddress_10 : decode cX3_addAddress 10 = .ok (.sipush 255, 3) := by decide +kernel
theorem dX3_addAddress_13 : decode cX3_addAddress 13 = .ok (.iand, 1) := by decide +kernel
theorem dX3_addAddress_14 : decode cX3_addAddress 14 = .ok (.invokevirtual 31, 3) := by decide +kernel
theorem dX3_addAddress_17 : decode cX3_addAddress 17 = .ok (.return_, 1) := by decide +kernel
theorem dX3_addByte_0 : decode cX3_addByte 0 = .ok (.aload_n 0, 1) := by decide +kernel
theorem dX3_addByte_1 : decode cX3_addByte 1 = .ok (.getfield 9, 3) := by decide +kernel
theorem dX3_addByte_4 : decode cX3_addByte 4 = .ok (.iload_n 1, 1) := by decide +kernel
theorem dX3_addByte_5 : decode cX3_addByte 5 = .ok (.iconst 4, 1) := by decide +kernel
theorem dX3_addByte_6 : decode cX3_addByte 6 = .ok (.ishr, 1) := by decide +kernel
theorem dX3_addByte_7 : decode cX3_addByte 7 = .ok (.bipush 15, 2) := by decide +kernel
theorem dX3_addByte_9 : decode cX3_addByte 9 = .ok (.iand, 1) := by decide +kernel
theorem dX3_addByte_10 : decode cX3_addByte 10 = .ok (.invokevirtual 48, 3) := by decide +kernel
theorem dX3_addByte_13 : decode cX3_addByte 13 = .ok (.aload_n 0, 1) := by decide +kernel
theorem dX3_addByte_14 : decode cX3_addByte 14 = .ok (.getfield 9, 3) := by decide +kernel
theorem dX3_addByte_17 : decode cX3_addByte 17 = .ok (.iload_n 1, 1) := by decide +kernel
theorem dX3_addByte_18 : decode cX3_addByte 18 = .ok (.bipush 15, 2) := by decide +kernel
theorem dX3_addByte_20 : decode cX3_addByte 20 = .ok (.iand, 1) := by decide +kernel
theorem dX3_addByte_21 : decode cX3_addByte 21 = .ok (.invokevirtual 48, 3) := by decide +kernel
theorem dX3_addByte_24 : decode cX3_addByte 24 = .ok (.aload_n 0, 1) := by decide +kernel
theorem dX3_addByte_25 : decode cX3_addByte 25 = .ok (.dup, 1) := by decide +kernel
theorem dX3_addByte_26 : decode cX3_addByte 26 = .ok (.getfield 38, 3) := by decide +kernel
theorem dX3_addByte_29 : decode cX3_addByte 29 = .ok (.iload_n 1, 1) := by decide +kernel
theorem dX3_addByte_30 : decode cX3_addByte 30 = .ok (.iadd, 1) := by decide +kernel
theorem dX3_addByte_31 : decode cX3_addByte 31 = .ok (.putfield 38, 3) := by decide +kernel
theorem dX3_addByte_34 : decode cX3_addByte 34 = .ok (.return_, 1) := by decide +kernel
theorem dX4_init_0 : decode cX4_init 0 = .ok (.aload_n 0, 1) := by decide +kernel
theorem dX4_init_1 : decode cX4_init 1 = .ok (.invokespecial 3, 3) := by decide +kernel
theorem dX4_init_4 : decode cX4_init 4 = .ok (.aload_n 0, 1) := by decide +kernel
theorem dX4_init_5 : decode cX4_init 5 = .ok (.bipush 40, 2) := by decide +kernel
theorem dX4_init_7 : decode cX4_init 7 = .ok (.newarray .int, 2) := by decide +kernel
theorem dX4_init_9 : decode cX4_init 9 = .ok (.putfield 9, 3) := by decide +kernel
theorem dX4_init_12 : decode cX4_init 12 = .ok (.aload_n 0, 1) := by decide +kernel
theorem dX4_init_13 : decode cX4_init 13 = .ok (.bipush 40, 2) := by decide +kernel
theorem dX4_init_15 : decode cX4_init 15 = .ok (.newarray .int, 2) := by decide +kernel
theorem dX4_init_17 : decode cX4_init 17 = .ok (.putfield 15, 3) := by decide +kernel
theorem dX4_init_20 : decode cX4_init 20 = .ok (.aload_n 0, 1) := by decide +kernel
theorem dX4_init_21 : decode cX4_init 21 = .ok (.bipush 40, 2) := by decide +kernel
theorem dX4_init_23 : decode cX4_init 23 = .ok (.newarray .int, 2) := by decide +kernel
theorem dX4_init_25 : decode cX4_init 25 = .ok (.putfield 18, 3) := by decide +kernel
theorem dX4_init_28 : decode cX4_init 28 = .ok (.aload_n 0, 1) := by decide +kernel
theorem dX4_init_29 : decode cX4_init 29 = .ok (.bipush 40, 2) := by decide +kernel
theorem dX4_init_31 : decode cX4_init 31 = .ok (.newarray .int, 2) := by decide +kernel
theorem dX4_init_33 : decode cX4_init 33 = .ok (.putfield 21, 3) := by decide +kernel
theorem dX4_init_36 : decode cX4_init 36 = .ok (.aload_n 0, 1) := by decide +kernel
theorem dX4_init_37 : decode cX4_init 37 = .ok (.iconst (-1), 1) := by decide +kernel
theorem dX4_init_38 : decode cX4_init 38 = .ok (.putfield 24, 3) := by decide +kernel
theorem dX4_init_41 : decode cX4_init 41 = .ok (.return_, 1) := by decide +kernel
theorem dX4_clear_0 : decode cX4_clear 0 = .ok (.aload_n 0, 1) := by decide +kernel
theorem dX4_clear_1 : decode cX4_clear 1 = .ok (.iconst 0, 1) := by decide +kernel
theorem dX4_clear_2 : decode cX4_clear 2 = .ok (.putfield 28, 3) := by decide +kernel
theorem dX4_clear_5 : decode cX4_clear 5 = .ok (.return_, 1) := by decide +kernel
theorem dX4_isFull_0 : decode cX4_isFull 0 = .ok (.aload_n 0, 1) := by decide +kernel
theorem dX4_isFull_1 : decode cX4_isFull 1 = .ok (.getfield 28, 3) := by decide +kernel
theorem dX4_isFull_4 : decode cX4_isFull 4 = .ok (.bipush 40, 2) := by decide +kernel
theorem dX4_isFull_6 : decode cX4_isFull 6 = .ok (.if_icmp .lt 7, 3) := by decide +kernel
theorem dX4_isFull_9 : decode cX4_isFull 9 = .ok (.iconst 1, 1) := by decide +kernel
theorem dX4_isFull_10 : decode cX4_isFull 10 = .ok (.goto 4, 3) := by decide +kernel
theorem dX4_isFull_13 : decode cX4_isFull 13 = .ok (.iconst 0, 1) := by decide +kernel
theorem dX4_isFull_14 : decode cX4_isFull 14 = .ok (.ireturn, 1) := by decide +kernel
theorem dX4_addStep_0 : decode cX4_addStep 0 = .ok (.aload_n 0, 1) := by decide +kernel
theorem dX4_addStep_1 : decode cX4_addStep 1 = .ok (.invokevirtual 31, 3) := by decide +kernel
theorem dX4_addStep_4 : decode cX4_addStep 4 = .ok (.ifCond .ne 10, 3) := by decide +kernel
theorem dX4_addStep_7 : decode cX4_addStep 7 = .ok (.aload_n 0, 1) := by decide +kernel
theorem dX4_addStep_8 : decode cX4_addStep 8 = .ok (.getfield 28, 3) := by decide +kernel
theorem dX4_addStep_11 : decode cX4_addStep 11 = .ok (.ifCond .ge 5, 3) := by decide +kernel
theorem dX4_addStep_14 : decode cX4_addStep 14 = .ok (.iconst (-1), 1) := by decide +kernel
theorem dX4_addStep_15 : decode cX4_addStep 15 = .ok (.ireturn, 1) := by decide +kernel
theorem dX4_addStep_16 : decode cX4_addStep 16 = .ok (.aload_n 0, 1) := by decide +kernel
theorem dX4_addStep_17 : decode cX4_addStep 17 = .ok (.getfield 9, 3) := by decide +kernel
theorem dX4_addStep_20 : decode cX4_addStep 20 = .ok (.aload_n 0, 1) := by decide +kernel
theorem dX4_addStep_21 : decode cX4_addStep 21 = .ok (.getfield 28, 3) := by decide +kernel
theorem dX4_addStep_24 : decode cX4_addStep 24 = .ok (.iload_n 1, 1) := by decide +kernel
theorem dX4_addStep_25 : decode cX4_addStep 25 = .ok (.iastore, 1) := by decide +kernel
theorem dX4_addStep_26 : decode cX4_addStep 26 = .ok (.aload_n 0, 1) := by decide +kernel
theorem dX4_addStep_27 : decode cX4_addStep 27 = .ok (.getfield 15, 3) := by decide +kernel
theorem dX4_addStep_30 : decode cX4_addStep 30 = .ok (.aload_n 0, 1) := by decide +kernel
theorem dX4_addStep_31 : decode cX4_addStep 31 = .ok (.getfield 28, 3) := by decide +kernel
theorem dX4_addStep_34 : decode cX4_addStep 34 = .ok (.iconst 0, 1) := by decide +kernel
theorem dX4_addStep_35 : decode cX4_addStep 35 = .ok (.iastore, 1) := by decide +kernel
theorem dX4_addStep_36 : decode cX4_addStep 36 = .ok (.aload_n 0, 1) := by decide +kernel
theorem dX4_addStep_37 : decode cX4_addStep 37 = .ok (.getfield 18, 3) := by decide +kernel
theorem dX4_addStep_40 : decode cX4_addStep 40 = .ok (.aload_n 0, 1) := by decide +kernel
theorem dX4_addStep_41 : decode cX4_addStep 41 = .ok (.getfield 28, 3) := by decide +kernel
theorem dX4_addStep_44 : decode cX4_addStep 44 = .ok (.aload_n 0, 1) := by decide +kernel
theorem dX4_addStep_45 : decode cX4_addStep 45 = .ok (.getfield 28, 3) := by decide +kernel
theorem dX4_addStep_48 : decode cX4_addStep 48 = .ok (.iconst 1, 1) := by decide +kernel
theorem dX4_addStep_49 : decode cX4_addStep 49 = .ok (.iadd, 1) := by decide +kernel
theorem dX4_addStep_50 : decode cX4_addStep 50 = .ok (.iastore, 1) := by decide +kernel
theorem dX4_addStep_51 : decode cX4_addStep 51 = .ok (.aload_n 0, 1) := by decide +kernel
theorem dX4_addStep_52 : decode cX4_addStep 52 = .ok (.getfield 21, 3) := by decide +kernel
theorem dX4_addStep_55 : decode cX4_addStep 55 = .ok (.aload_n 0, 1) := by decide +kernel
theorem dX4_addStep_56 : decode cX4_addStep 56 = .ok (.getfield 28, 3) := by decide +kernel
theorem dX4_addStep_59 : decode cX4_addStep 59 = .ok (.aload_n 0, 1) := by decide +kernel
theorem dX4_addStep_60 : decode cX4_addStep 60 = .ok (.getfield 28, 3) := by decide +kernel
theorem dX4_addStep_63 : decode cX4_addStep 63 = .ok (.iconst 1, 1) := by decide +kernel
theorem dX4_addStep_64 : decode cX4_addStep 64 = .ok (.iadd, 1) := by decide +kernel
theorem dX4_addStep_65 : decode cX4_addStep 65 = .ok (.iastore, 1) := by decide +kernel
theorem dX4_addStep_66 : decode cX4_addStep 66 = .ok (.aload_n 0, 1) := by decide +kernel
theorem dX4_addStep_67 : decode cX4_addStep 67 = .ok (.dup, 1) := by decide +kernel
theorem dX4_addStep_68 : decode cX4_addStep 68 = .ok (.getfield 28, 3) := by decide +kernel
theorem dX4_addStep_71 : decode cX4_addStep 71 = .ok (.iconst 1, 1) := by decide +kernel
theorem dX4_addStep_72 : decode cX4_addStep 72 = .ok (.iadd, 1) := by decide +kernel
theorem dX4_addStep_73 : decode cX4_addStep 73 = .ok (.putfield 28, 3) := by decide +kernel
theorem dX4_addStep_76 : decode cX4_addStep 76 = .ok (.aload_n 0, 1) := by decide +kernel
theorem dX4_addStep_77 : decode cX4_addStep 77 = .ok (.getfield 28, 3) := by decide +kernel
theorem dX4_addStep_80 : decode cX4_addStep 80 = .ok (.iconst 1, 1) := by decide +kernel
theorem dX4_addStep_81 : decode cX4_addStep 81 = .ok (.isub, 1) := by decide +kernel
theorem dX4_addStep_82 : decode cX4_addStep 82 = .ok (.ireturn, 1) := by decide +kernel
theorem dX4_setNumber_0 : decode cX4_setNumber 0 = .ok (.aload_n 0, 1) := by decide +kernel
theorem dX4_setNumber_1 : decode cX4_setNumber 1 = .ok (.iload_n 1, 1) := by decide +kernel
theorem dX4_setNumber_2 : decode cX4_setNumber 2 = .ok (.invokevirtual 35, 3) := by decide +kernel
theorem dX4_setNumber_5 : decode cX4_setNumber 5 = .ok (.ifCond .eq 10, 3) := by decide +kernel
theorem dX4_setNumber_8 : decode cX4_setNumber 8 = .ok (.aload_n 0, 1) := by decide +kernel
theorem dX4_setNumber_9 : decode cX4_setNumber 9 = .ok (.getfield 15, 3) := by decide +kernel
theorem dX4_setNumber_12 : decode cX4_setNumber 12 = .ok (.iload_n 1, 1) := by decide +kernel
theorem dX4_setNumber_13 : decode cX4_setNumber 13 = .ok (.iload_n 2, 1) := by decide +kernel
theorem dX4_setNumber_14 : decode cX4_setNumber 14 = .ok (.iastore, 1) := by decide +kernel
theorem dX4_setNumber_15 : decode cX4_setNumber 15 = .ok (.return_, 1) := by decide +kernel
theorem dX4_startOtherwise_0 : decode cX4_startOtherwise 0 = .ok (.aload_n 0, 1) := by decide +kernel
theorem dX4_startOtherwise_1 : decode cX4_startOtherwise 1 = .ok (.iload_n 1, 1) := by decide +kernel
theorem dX4_startOtherwise_2 : decode cX4_startOtherwise 2 = .ok (.invokevirtual 35, 3) := by decide +kernel
theorem dX4_startOtherwise_5 : decode cX4_startOtherwise 5 = .ok (.ifCond .eq 13, 3) := by decide +kernel
theorem dX4_startOtherwise_8 : decode cX4_startOtherwise 8 = .ok (.aload_n 0, 1) := by decide +kernel
theorem dX4_startOtherwise_9 : decode cX4_startOtherwise 9 = .ok (.getfield 18, 3) := by decide +kernel
theorem dX4_startOtherwise_12 : decode cX4_startOtherwise 12 = .ok (.iload_n 1, 1) := by decide +kernel
theorem dX4_startOtherwise_13 : decode cX4_startOtherwise 13 = .ok (.aload_n 0, 1) := by decide +kernel
theorem dX4_startOtherwise_14 : decode cX4_startOtherwise 14 = .ok (.getfield 28, 3) := by decide +kernel
theorem dX4_startOtherwise_17 : decode cX4_startOtherwise 17 = .ok (.iastore, 1) := by decide +kernel
theorem dX4_startOtherwise_18 : decode cX4_startOtherwise 18 = .ok (.return_, 1) := by decide +kernel
theorem dX4_close_0 : decode cX4_close 0 = .ok (.aload_n 0, 1) := by decide +kernel
theorem dX4_close_1 : decode cX4_close 1 = .ok (.iload_n 1, 1) := by decide +kernel
theorem dX4_close_2 : decode cX4_close 2 = .ok (.invokevirtual 35, 3) := by decide +kernel
theorem dX4_close_5 : decode cX4_close 5 = .ok (.ifCond .eq 13, 3) := by decide +kernel
theorem dX4_close_8 : decode cX4_close 8 = .ok (.aload_n 0, 1) := by decide +kernel
theorem dX4_close_9 : decode cX4_close 9 = .ok (.getfield 21, 3) := by decide +kernel
theorem dX4_close_12 : decode cX4_close 12 = .ok (.iload_n 1, 1) := by decide +kernel
theorem dX4_close_13 : decode cX4_close 13 = .ok (.aload_n 0, 1) := by decide +kernel
theorem dX4_close_14 : decode cX4_close 14 = .ok (.getfield 28, 3) := by decide +kernel
theorem dX4_close_17 : decode cX4_close 17 = .ok (.iastore, 1) := by decide +kernel
theorem dX4_close_18 : decode cX4_close 18 = .ok (.return_, 1) := by decide +kernel
theorem dX4_kindOf_0 : decode cX4_kindOf 0 = .ok (.aload_n 0, 1) := by decide +kernel
theorem dX4_kindOf_1 : decode cX4_kindOf 1 = .ok (.iload_n 1, 1) := by decide +kernel
theorem dX4_kindOf_2 : decode cX4_kindOf 2 = .ok (.invokevirtual 35, 3) := by decide +kernel
theorem dX4_kindOf_5 : decode cX4_kindOf 5 = .ok (.ifCond .eq 12, 3) := by decide +kernel
theorem dX4_kindOf_8 : decode cX4_kindOf 8 = .ok (.aload_n 0, 1) := by decide +kernel
theorem dX4_kindOf_9 : decode cX4_kindOf 9 = .ok (.getfield 9, 3) := by decide +kernel
theorem dX4_kindOf_12 : decode cX4_kindOf 12 = .ok (.iload_n 1, 1) := by decide +kernel
theorem dX4_kindOf_13 : decode cX4_kindOf 13 = .ok (.iaload, 1) := by decide +kernel
theorem dX4_kindOf_14 : decode cX4_kindOf 14 = .ok (.goto 4, 3) := by decide +kernel
theorem dX4_kindOf_17 : decode cX4_kindOf 17 = .ok (.iconst (-1), 1) := by decide +kernel
theorem dX4_kindOf_18 : decode cX4_kindOf 18 = .ok (.ireturn, 1) := by decide +kernel
theorem dX4_numberOf_0 : decode cX4_numberOf 0 = .ok (.aload_n 0, 1) := by decide +kernel
theorem dX4_numberOf_1 : decode cX4_numberOf 1 = .ok (.iload_n 1, 1) := by decide +kernel
theorem dX4_numberOf_2 : decode cX4_numberOf 2 = .ok (.invokevirtual 35, 3) := by decide +kernel
theorem dX4_numberOf_5 : decode cX4_numberOf 5 = .ok (.ifCond .eq 12, 3) := by decide +kernel
theorem dX4_numberOf_8 : decode cX4_numberOf 8 = .ok (.aload_n 0, 1) := by decide +kernel
theorem dX4_numberOf_9 : decode cX4_numberOf 9 = .ok (.getfield 15, 3) := by decide +kernel
theorem dX4_numberOf_12 : decode cX4_numberOf 12 = .ok (.iload_n 1, 1) := by decide +kernel
theorem dX4_numberOf_13 : decode cX4_numberOf 13 = .ok (.iaload, 1) := by decide +kernel
theorem dX4_numberOf_14 : decode cX4_numberOf 14 = .ok (.goto 4, 3) := by decide +kernel
theorem dX4_numberOf_17 : decode cX4_numberOf 17 = .ok (.iconst 0, 1) := by decide +kernel
theorem dX4_numberOf_18 : decode cX4_numberOf 18 = .ok (.ireturn, 1) := by decide +kernel
theorem dX4_otherwiseOf_0 : decode cX4_otherwiseOf 0 = .ok (.aload_n 0, 1) := by decide +kernel
theorem dX4_otherwiseOf_1 : decode cX4_otherwiseOf 1 = .ok (.iload_n 1, 1) := by decide +kernel
theorem dX4_otherwiseOf_2 : decode cX4_otherwiseOf 2 = .ok (.invokevirtual 35, 3) := by decide +kernel
theorem dX4_otherwiseOf_5 : decode cX4_otherwiseOf 5 = .ok (.ifCond .eq 12, 3) := by decide +kernel
theorem dX4_otherwiseOf_8 : decode cX4_otherwiseOf 8 = .ok (.aload_n 0, 1) := by decide +kernel
theorem dX4_otherwiseOf_9 : decode cX4_otherwiseOf 9 = .ok (.getfield 18, 3) := by decide +kernel
theorem dX4_otherwiseOf_12 : decode cX4_otherwiseOf 12 = .ok (.iload_n 1, 1) := by decide +kernel
theorem dX4_otherwiseOf_13 : decode cX4_otherwiseOf 13 = .ok (.iaload, 1) := by decide +kernel
theorem dX4_otherwiseOf_14 : decode cX4_otherwiseOf 14 = .ok (.goto 7, 3) := by decide +kernel
theorem dX4_otherwiseOf_17 : decode cX4_otherwiseOf 17 = .ok (.aload_n 0, 1) := by decide +kernel
theorem dX4_otherwiseOf_18 : decode cX4_otherwiseOf 18 = .ok (.getfield 28, 3) := by decide +kernel
theorem dX4_otherwiseOf_21 : decode cX4_otherwiseOf 21 = .ok (.ireturn, 1) := by decide +kernel
theorem dX4_behindOf_0 : decode cX4_behindOf 0 = .ok (.aload_n 0, 1) := by decide +kernel
theorem dX4_behindOf_1 : decode cX4_behindOf 1 = .ok (.iload_n 1, 1) := by decide +kernel
theorem dX4_behindOf_2 : decode cX4_behindOf 2 = .ok (.invokevirtual 35, 3) := by decide +kernel
theorem dX4_behindOf_5 : decode cX4_behindOf 5 = .ok (.ifCond .eq 12, 3) := by decide +kernel
theorem dX4_behindOf_8 : decode cX4_behindOf 8 = .ok (.aload_n 0, 1) := by decide +kernel
theorem dX4_behindOf_9 : decode cX4_behindOf 9 = .ok (.getfield 21, 3) := by decide +kernel
theorem dX4_behindOf_12 : decode cX4_behindOf 12 = .ok (.iload_n 1, 1) := by decide +kernel
theorem dX4_behindOf_13 : decode cX4_behindOf 13 = .ok (.iaload, 1) := by decide +kernel
theorem dX4_behindOf_14 : decode cX4_behindOf 14 = .ok (.goto 7, 3) := by decide +kernel
theorem dX4_behindOf_17 : decode cX4_behindOf 17 = .ok (.aload_n 0, 1) := by decide +kernel
theorem dX4_behindOf_18 : decode cX4_behindOf 18 = .ok (.getfield 28, 3) := by decide +kernel
theorem dX4_behindOf_21 : decode cX4_behindOf 21 = .ok (.ireturn, 1) := by decide +kernel
theorem dX4_measure_0 : decode cX4_measure 0 = .ok (.aload_n 0, 1) := by decide +kernel
theorem dX4_measure_1 : decode cX4_measure 1 = .ok (.iconst (-1), 1) := by decide +kernel
theorem dX4_measure_2 : decode cX4_measure 2 = .ok (.putfield 24, 3) := by decide +kernel
theorem dX4_measure_5 : decode cX4_measure 5 = .ok (.aload_n 0, 1) := by decide +kernel
theorem dX4_measure_6 : decode cX4_measure 6 = .ok (.iconst 0, 1) := by decide +kernel
theorem dX4_measure_7 : decode cX4_measure 7 = .ok (.aload_n 0, 1) := by decide +kernel
theorem dX4_measure_8 : decode cX4_measure 8 = .ok (.getfield 28, 3) := by decide +kernel
theorem dX4_measure_11 : decode cX4_measure 11 = .ok (.iconst 0, 1) := by decide +kernel
theorem dX4_measure_12 : decode cX4_measure 12 = .ok (.iconst 0, 1) := by decide +kernel
theorem dX4_measure_13 : decode cX4_measure 13 = .ok (.invokevirtual 39, 3) := by decide +kernel
theorem dX4_measure_16 : decode cX4_measure 16 = .ok (.pop, 1) := by decide +kernel
theorem dX4_measure_17 : decode cX4_measure 17 = .ok (.aload_n 0, 1) := by decide +kernel
theorem dX4_measure_18 : decode cX4_measure 18 = .ok (.ldc2_w 43, 3) := by decide +kernel
theorem dX4_measure_21 : decode cX4_measure 21 = .ok (.aload_n 0, 1) := by decide +kernel
theorem dX4_measure_22 : decode cX4_measure 22 = .ok (.iconst 1, 1) := by decide +kernel
theorem dX4_measure_23 : decode cX4_measure 23 = .ok (.iconst 0, 1) := by decide +kernel
theorem dX4_measure_24 : decode cX4_measure 24 = .ok (.aload_n 0, 1) := by decide +kernel
theorem dX4_measure_25 : decode cX4_measure 25 = .ok (.getfield 28, 3) := by decide +kernel
theorem dX4_measure_28 : decode cX4_measure 28 = .ok (.iconst 0, 1) := by decide +kernel
theorem dX4_measure_29 : decode cX4_measure 29 = .ok (.invokevirtual 45, 3) := by decide +kernel
theorem dX4_measure_32 : decode cX4_measure 32 = .ok (.invokestatic 49, 3) := by decide +kernel
theorem dX4_measure_35 : decode cX4_measure 35 = .ok (.l2i, 1) := by decide +kernel
theorem dX4_measure_36 : decode cX4_measure 36 = .ok (.putfield 55, 3) := by decide +kernel
theorem dX4_measure_39 : decode cX4_measure 39 = .ok (.aload_n 0, 1) := by decide +kernel
theorem dX4_measure_40 : decode cX4_measure 40 = .ok (.ldc2_w 43, 3) := by decide +kernel
theorem dX4_measure_43 : decode cX4_measure 43 = .ok (.aload_n 0, 1) := by decide +kernel
theorem dX4_measure_44 : decode cX4_measure 44 = .ok (.iconst 0, 1) := by decide +kernel
theorem dX4_measure_45 : decode cX4_measure 45 = .ok (.iconst 0, 1) := by decide +kernel
theorem dX4_measure_46 : decode cX4_measure 46 = .ok (.aload_n 0, 1) := by decide +kernel
theorem dX4_measure_47 : decode cX4_measure 47 = .ok (.getfield 28, 3) := by decide +kernel
theorem dX4_measure_50 : decode cX4_measure 50 = .ok (.iconst 0, 1) := by decide +kernel
theorem dX4_measure_51 : decode cX4_measure 51 = .ok (.invokevirtual 45, 3) := by decide +kernel
theorem dX4_measure_54 : decode cX4_measure 54 = .ok (.invokestatic 49, 3) := by decide +kernel
theorem dX4_measure_57 : decode cX4_measure 57 = .ok (.l2i, 1) := by decide +kernel
theorem dX4_measure_58 : decode cX4_measure 58 = .ok (.putfield 58, 3) := by decide +kernel
theorem dX4_measure_61 : decode cX4_measure 61 = .ok (.return_, 1) := by decide +kernel
theorem dX4_fits_0 : decode cX4_fits 0 = .ok (.aload_n 0, 1) := by decide +kernel
theorem dX4_fits_1 : decode cX4_fits 1 = .ok (.getfield 24, 3) := by decide +kernel
theorem dX4_fits_4 : decode cX4_fits 4 = .ok (.aload_n 1, 1) := by decide +kernel
theorem dX4_fits_5 : decode cX4_fits 5 = .ok (.getfield 61, 3) := by decide +kernel
theorem dX4_fits_8 : decode cX4_fits 8 = .ok (.if_icmp .gt 28, 3) := by decide +kernel
theorem dX4_fits_11 : decode cX4_fits 11 = .ok (.aload_n 0, 1) := by decide +kernel
theorem dX4_fits_12 : decode cX4_fits 12 = .ok (.getfield 55, 3) := by decide +kernel
theorem dX4_fits_15 : decode cX4_fits 15 = .ok (.aload_n 1, 1) := by decide +kernel
theorem dX4_fits_16 : decode cX4_fits 16 = .ok (.getfield 65, 3) := by decide +kernel
theorem dX4_fits_19 : decode cX4_fits 19 = .ok (.if_icmp .gt 17, 3) := by decide +kernel
theorem dX4_fits_22 : decode cX4_fits 22 = .ok (.aload_n 0, 1) := by decide +kernel
theorem dX4_fits_23 : decode cX4_fits 23 = .ok (.getfield 58, 3) := by decide +kernel
theorem dX4_fits_26 : decode cX4_fits 26 = .ok (.sipush 5000, 3) := by decide +kernel
theorem dX4_fits_29 : decode cX4_fits 29 = .ok (.if_icmp .gt 7, 3) := by decide +kernel
theorem dX4_fits_32 : decode cX4_fits 32 = .ok (.iconst 1, 1) := by decide +kernel
theorem dX4_fits_33 : decode cX4_fits 33 = .ok (.goto 4, 3) := by decide +kernel
theorem dX4_fits_36 : decode cX4_fits 36 = .ok (.iconst 0, 1) := by decide +kernel
theorem dX4_fits_37 : decode cX4_fits 37 = .ok (.ireturn, 1) := by decide +kernel
theorem dX4_volts_0 : decode cX4_volts 0 = .ok (.iload 4, 2) := by decide +kernel
theorem dX4_volts_2 : decode cX4_volts 2 = .ok (.iconst 5, 1) := by decide +kernel
theorem dX4_volts_3 : decode cX4_volts 3 = .ok (.if_icmp .le 5, 3) := by decide +kernel
theorem dX4_volts_6 : decode cX4_volts 6 = .ok (.iload_n 3, 1) := by decide +kernel
theorem dX4_volts_7 : decode cX4_volts 7 = .ok (.ireturn, 1) := by decide +kernel
theorem dX4_volts_8 : decode cX4_volts 8 = .ok (.iload_n 3, 1) := by decide +kernel
theorem dX4_volts_9 : decode cX4_volts 9 = .ok (.istore 5, 2) := by decide +kernel
theorem dX4_volts_11 : decode cX4_volts 11 = .ok (.iload_n 1, 1) := by decide +kernel
theorem dX4_volts_12 : decode cX4_volts 12 = .ok (.istore 6, 2) := by decide +kernel
theorem dX4_volts_14 : decode cX4_volts 14 = .ok (.iload 6, 2) := by decide +kernel
theorem dX4_volts_16 : decode cX4_volts 16 = .ok (.iload_n 2, 1) := by decide +kernel
theorem dX4_volts_17 : decode cX4_volts 17 = .ok (.if_icmp .ge 145, 3) := by decide +kernel
theorem dX4_volts_20 : decode cX4_volts 20 = .ok (.aload_n 0, 1) := by decide +kernel
theorem dX4_volts_21 : decode cX4_volts 21 = .ok (.iload 6, 2) := by decide +kernel
theorem dX4_volts_23 : decode cX4_volts 23 = .ok (.invokevirtual 68, 3) := by decide +kernel
theorem dX4_volts_26 : decode cX4_volts 26 = .ok (.istore 7, 2) := by decide +kernel
theorem dX4_volts_28 : decode cX4_volts 28 = .ok (.iload 7, 2) := by decide +kernel
theorem dX4_volts_30 : decode cX4_volts 30 = .ok (.ifCond .ne 14, 3) := by decide +kernel
theorem dX4_volts_33 : decode cX4_volts 33 = .ok (.aload_n 0, 1) := by decide +kernel
theorem dX4_volts_34 : decode cX4_volts 34 = .ok (.iload 6, 2) := by decide +kernel
theorem dX4_volts_36 : decode cX4_volts 36 = .ok (.invokevirtual 72, 3) := by decide +kernel
theorem dX4_volts_39 : decode cX4_volts 39 = .ok (.istore 5, 2) := by decide +kernel
theorem dX4_volts_41 : decode cX4_volts 41 = .ok (.goto 103, 3) := by decide +kernel
theorem dX4_volts_44 : decode cX4_volts 44 = .ok (.iload 7, 2) := by decide +kernel
theorem dX4_volts_46 : decode cX4_volts 46 = .ok (.iconst 1, 1) := by decide +kernel
theorem dX4_volts_47 : decode cX4_volts 47 = .ok (.if_icmp .ne 19, 3) := by decide +kernel
theorem dX4_volts_50 : decode cX4_volts 50 = .ok (.aload_n 0, 1) := by decide +kernel
theorem dX4_volts_51 : decode cX4_volts 51 = .ok (.aload_n 0, 1) := by decide +kernel
theorem dX4_volts_52 : decode cX4_volts 52 = .ok (.getfield 24, 3) := by decide +kernel
theorem dX4_volts_55 : decode cX4_volts 55 = .ok (.iload 5, 2) := by decide +kernel
theorem dX4_volts_57 : decode cX4_volts 57 = .ok (.invokestatic 75, 3) := by decide +kernel
theorem dX4_volts_60 : decode cX4_volts 60 = .ok (.putfield 24, 3) := by decide +kernel
theorem dX4_volts_63 : decode cX4_volts 63 = .ok (.goto 81, 3) := by decide +kernel
theorem dX4_volts_66 : decode cX4_volts 66 = .ok (.iload 7, 2) := by decide +kernel
theorem dX4_volts_68 : decode cX4_volts 68 = .ok (.iconst 4, 1) := by decide +kernel
theorem dX4_volts_69 : decode cX4_volts 69 = .ok (.if_icmp .ne 57, 3) := by decide +kernel
theorem dX4_volts_72 : decode cX4_volts 72 = .ok (.aload_n 0, 1) := by decide +kernel
theorem dX4_volts_73 : decode cX4_volts 73 = .ok (.iload 6, 2) := by decide +kernel
theorem dX4_volts_75 : decode cX4_volts 75 = .ok (.iconst 1, 1) := by decide +kernel
theorem dX4_volts_76 : decode cX4_volts 76 = .ok (.iadd, 1) := by decide +kernel
theorem dX4_volts_77 : decode cX4_volts 77 = .ok (.aload_n 0, 1) := by decide +kernel
theorem dX4_volts_78 : decode cX4_volts 78 = .ok (.iload 6, 2) := by decide +kernel
theorem dX4_volts_80 : decode cX4_volts 80 = .ok (.invokevirtual 79, 3) := by decide +kernel
theorem dX4_volts_83 : decode cX4_volts 83 = .ok (.iload 5, 2) := by decide +kernel
theorem dX4_volts_85 : decode cX4_volts 85 = .ok (.iload 4, 2) := by decide +kernel
theorem dX4_volts_87 : decode cX4_volts 87 = .ok (.iconst 1, 1) := by decide +kernel
theorem dX4_volts_88 : decode cX4_volts 88 = .ok (.iadd, 1) := by decide +kernel
theorem dX4_volts_89 : decode cX4_volts 89 = .ok (.invokevirtual 39, 3) := by decide +kernel
theorem dX4_volts_92 : decode cX4_volts 92 = .ok (.istore 8, 2) := by decide +kernel
theorem dX4_volts_94 : decode cX4_volts 94 = .ok (.iload 8, 2) := by decide +kernel
theorem dX4_volts_96 : decode cX4_volts 96 = .ok (.aload_n 0, 1) := by decide +kernel
theorem dX4_volts_97 : decode cX4_volts 97 = .ok (.aload_n 0, 1) := by decide +kernel
theorem dX4_volts_98 : decode cX4_volts 98 = .ok (.iload 6, 2) := by decide +kernel
theorem dX4_volts_100 : decode cX4_volts 100 = .ok (.invokevirtual 79, 3) := by decide +kernel
theorem dX4_volts_103 : decode cX4_volts 103 = .ok (.aload_n 0, 1) := by decide +kernel
theorem dX4_volts_104 : decode cX4_volts 104 = .ok (.iload 6, 2) := by decide +kernel
theorem dX4_volts_106 : decode cX4_volts 106 = .ok (.invokevirtual 82, 3) := by decide +kernel
theorem dX4_volts_109 : decode cX4_volts 109 = .ok (.iload 5, 2) := by decide +kernel
theorem dX4_volts_111 : decode cX4_volts 111 = .ok (.iload 4, 2) := by decide +kernel
theorem dX4_volts_113 : decode cX4_volts 113 = .ok (.iconst 1, 1) := by decide +kernel
theorem dX4_volts_114 : decode cX4_volts 114 = .ok (.iadd, 1) := by decide +kernel
theorem dX4_volts_115 : decode cX4_volts 115 = .ok (.invokevirtual 39, 3) := by decide +kernel
theorem dX4_volts_118 : decode cX4_volts 118 = .ok (.invokestatic 75, 3) := by decide +kernel
theorem dX4_volts_121 : decode cX4_volts 121 = .ok (.istore 5, 2) := by decide +kernel
theorem dX4_volts_123 : decode cX4_volts 123 = .ok (.goto 21, 3) := by decide +kernel
theorem dX4_volts_126 : decode cX4_volts 126 = .ok (.iload 7, 2) := by decide +kernel
theorem dX4_volts_128 : decode cX4_volts 128 = .ok (.iconst 3, 1) := by decide +kernel
theorem dX4_volts_129 : decode cX4_volts 129 = .ok (.if_icmp .ne 15, 3) := by decide +kernel
theorem dX4_volts_132 : decode cX4_volts 132 = .ok (.aload_n 0, 1) := by decide +kernel
theorem dX4_volts_133 : decode cX4_volts 133 = .ok (.iload 6, 2) := by decide +kernel
theorem dX4_volts_135 : decode cX4_volts 135 = .ok (.iload 5, 2) := by decide +kernel
theorem dX4_volts_137 : decode cX4_volts 137 = .ok (.iload 4, 2) := by decide +kernel
theorem dX4_volts_139 : decode cX4_volts 139 = .ok (.invokevirtual 85, 3) := by decide +kernel
theorem dX4_volts_142 : decode cX4_volts 142 = .ok (.istore 5, 2) := by decide +kernel
theorem dX4_volts_144 : decode cX4_volts 144 = .ok (.iload 6, 2) := by decide +kernel
theorem dX4_volts_146 : decode cX4_volts 146 = .ok (.iconst 1, 1) := by decide +kernel
theorem dX4_volts_147 : decode cX4_volts 147 = .ok (.iadd, 1) := by decide +kernel
theorem dX4_volts_148 : decode cX4_volts 148 = .ok (.aload_n 0, 1) := by decide +kernel
theorem dX4_volts_149 : decode cX4_volts 149 = .ok (.iload 6, 2) := by decide +kernel
theorem dX4_volts_151 : decode cX4_volts 151 = .ok (.invokevirtual 82, 3) := by decide +kernel
theorem dX4_volts_154 : decode cX4_volts 154 = .ok (.invokestatic 75, 3) := by decide +kernel
theorem dX4_volts_157 : decode cX4_volts 157 = .ok (.istore 6, 2) := by decide +kernel
theorem dX4_volts_159 : decode cX4_volts 159 = .ok (.goto (-145), 3) := by decide +kernel
theorem dX4_volts_162 : decode cX4_volts 162 = .ok (.iload 5, 2) := by decide +kernel
theorem dX4_volts_164 : decode cX4_volts 164 = .ok (.ireturn, 1) := by decide +kernel
theorem dX4_voltsOfTry_0 : decode cX4_voltsOfTry 0 = .ok (.iload_n 2, 1) := by decide +kernel
theorem dX4_voltsOfTry_1 : decode cX4_voltsOfTry 1 = .ok (.istore 4, 2) := by decide +kernel
theorem dX4_voltsOfTry_3 : decode cX4_voltsOfTry 3 = .ok (.iconst 0, 1) := by decide +kernel
theorem dX4_voltsOfTry_4 : decode cX4_voltsOfTry 4 = .ok (.istore 5, 2) := by decide +kernel
theorem dX4_voltsOfTry_6 : decode cX4_voltsOfTry 6 = .ok (.iload 5, 2) := by decide +kernel
theorem dX4_voltsOfTry_8 : decode cX4_voltsOfTry 8 = .ok (.aload_n 0, 1) := by decide +kernel
theorem dX4_voltsOfTry_9 : decode cX4_voltsOfTry 9 = .ok (.iload_n 1, 1) := by decide +kernel
theorem dX4_voltsOfTry_10 : decode cX4_voltsOfTry 10 = .ok (.invokevirtual 72, 3) := by decide +kernel
theorem dX4_voltsOfTry_13 : decode cX4_voltsOfTry 13 = .ok (.if_icmp .ge 47, 3) := by decide +kernel
theorem dX4_voltsOfTry_16 : decode cX4_voltsOfTry 16 = .ok (.iload 4, 2) := by decide +kernel
theorem dX4_voltsOfTry_18 : decode cX4_voltsOfTry 18 = .ok (.aload_n 0, 1) := by decide +kernel
theorem dX4_voltsOfTry_19 : decode cX4_voltsOfTry 19 = .ok (.iload_n 1, 1) := by decide +kernel
theorem dX4_voltsOfTry_20 : decode cX4_voltsOfTry 20 = .ok (.iconst 1, 1) := by decide +kernel
theorem dX4_voltsOfTry_21 : decode cX4_voltsOfTry 21 = .ok (.iadd, 1) := by decide +kernel
theorem dX4_voltsOfTry_22 : decode cX4_voltsOfTry 22 = .ok (.aload_n 0, 1) := by decide +kernel
theorem dX4_voltsOfTry_23 : decode cX4_voltsOfTry 23 = .ok (.iload_n 1, 1) := by decide +kernel
theorem dX4_voltsOfTry_24 : decode cX4_voltsOfTry 24 = .ok (.invokevirtual 82, 3) := by decide +kernel
theorem dX4_voltsOfTry_27 : decode cX4_voltsOfTry 27 = .ok (.iload 4, 2) := by decide +kernel
theorem dX4_voltsOfTry_29 : decode cX4_voltsOfTry 29 = .ok (.iload_n 3, 1) := by decide +kernel
theorem dX4_voltsOfTry_30 : decode cX4_voltsOfTry 30 = .ok (.iconst 1, 1) := by decide +kernel
theorem dX4_voltsOfTry_31 : decode cX4_voltsOfTry 31 = .ok (.iadd, 1) := by decide +kernel
theorem dX4_voltsOfTry_32 : decode cX4_voltsOfTry 32 = .ok (.invokevirtual 39, 3) := by decide +kernel
theorem dX4_voltsOfTry_35 : decode cX4_voltsOfTry 35 = .ok (.invokestatic 75, 3) := by decide +kernel
theorem dX4_voltsOfTry_38 : decode cX4_voltsOfTry 38 = .ok (.istore 6, 2) := by decide +kernel
theorem dX4_voltsOfTry_40 : decode cX4_voltsOfTry 40 = .ok (.iload 6, 2) := by decide +kernel
theorem dX4_voltsOfTry_42 : decode cX4_voltsOfTry 42 = .ok (.iload 4, 2) := by decide +kernel
theorem dX4_voltsOfTry_44 : decode cX4_voltsOfTry 44 = .ok (.if_icmp .ne 6, 3) := by decide +kernel
theorem dX4_voltsOfTry_47 : decode cX4_voltsOfTry 47 = .ok (.iload 4, 2) := by decide +kernel
theorem dX4_voltsOfTry_49 : decode cX4_voltsOfTry 49 = .ok (.ireturn, 1) := by decide +kernel
theorem dX4_voltsOfTry_50 : decode cX4_voltsOfTry 50 = .ok (.iload 6, 2) := by decide +kernel
theorem dX4_voltsOfTry_52 : decode cX4_voltsOfTry 52 = .ok (.istore 4, 2) := by decide +kernel
theorem dX4_voltsOfTry_54 : decode cX4_voltsOfTry 54 = .ok (.iinc 5 1, 3) := by decide +kernel
theorem dX4_voltsOfTry_57 : decode cX4_voltsOfTry 57 = .ok (.goto (-51), 3) := by decide +kernel
theorem dX4_voltsOfTry_60 : decode cX4_voltsOfTry 60 = .ok (.iload 4, 2) := by decide +kernel
theorem dX4_voltsOfTry_62 : decode cX4_voltsOfTry 62 = .ok (.ireturn, 1) := by decide +kernel
theorem dX4_most_0 : decode cX4_most 0 = .ok (.iload 4, 2) := by decide +kernel
theorem dX4_most_2 : decode cX4_most 2 = .ok (.iconst 5, 1) := by decide +kernel
theorem dX4_most_3 : decode cX4_most 3 = .ok (.if_icmp .le 5, 3) := by decide +kernel
theorem dX4_most_6 : decode cX4_most 6 = .ok (.lconst 0, 1) := by decide +kernel
theorem dX4_most_7 : decode cX4_most 7 = .ok (.lreturn, 1) := by decide +kernel
theorem dX4_most_8 : decode cX4_most 8 = .ok (.lconst 0, 1) := by decide +kernel
theorem dX4_most_9 : decode cX4_most 9 = .ok (.lstore 5, 2) := by decide +kernel
theorem dX4_most_11 : decode cX4_most 11 = .ok (.iload_n 2, 1) := by decide +kernel
theorem dX4_most_12 : decode cX4_most 12 = .ok (.istore 7, 2) := by decide +kernel
theorem dX4_most_14 : decode cX4_most 14 = .ok (.iload 7, 2) := by decide +kernel
theorem dX4_most_16 : decode cX4_most 16 = .ok (.iload_n 3, 1) := by decide +kernel
theorem dX4_most_17 : decode cX4_most 17 = .ok (.if_icmp .ge 158, 3) := by decide +kernel
theorem dX4_most_20 : decode cX4_most 20 = .ok (.aload_n 0, 1) := by decide +kernel
theorem dX4_most_21 : decode cX4_most 21 = .ok (.iload 7, 2) := by decide +kernel
theorem dX4_most_23 : decode cX4_most 23 = .ok (.invokevirtual 68, 3) := by decide +kernel
theorem dX4_most_26 : decode cX4_most 26 = .ok (.istore 8, 2) := by decide +kernel
theorem dX4_most_28 : decode cX4_most 28 = .ok (.lload 5, 2) := by decide +kernel
theorem dX4_most_30 : decode cX4_most 30 = .ok (.iload_n 1, 1) := by decide +kernel
theorem dX4_most_31 : decode cX4_most 31 = .ok (.ifCond .eq 23, 3) := by decide +kernel
theorem dX4_most_34 : decode cX4_most 34 = .ok (.iload 8, 2) := by decide +kernel
theorem dX4_most_36 : decode cX4_most 36 = .ok (.iconst 1, 1) := by decide +kernel
theorem dX4_most_37 : decode cX4_most 37 = .ok (.if_icmp .ne 12, 3) := by decide +kernel
theorem dX4_most_40 : decode cX4_most 40 = .ok (.aload_n 0, 1) := by decide +kernel
theorem dX4_most_41 : decode cX4_most 41 = .ok (.iload 7, 2) := by decide +kernel
theorem dX4_most_43 : decode cX4_most 43 = .ok (.invokevirtual 72, 3) := by decide +kernel
theorem dX4_most_46 : decode cX4_most 46 = .ok (.goto 4, 3) := by decide +kernel
theorem dX4_most_49 : decode cX4_most 49 = .ok (.iconst 0, 1) := by decide +kernel
theorem dX4_most_50 : decode cX4_most 50 = .ok (.i2l, 1) := by decide +kernel
theorem dX4_most_51 : decode cX4_most 51 = .ok (.goto 4, 3) := by decide +kernel
theorem dX4_most_54 : decode cX4_most 54 = .ok (.lconst 1, 1) := by decide +kernel
theorem dX4_most_55 : decode cX4_most 55 = .ok (.ladd, 1) := by decide +kernel
theorem dX4_most_56 : decode cX4_most 56 = .ok (.lstore 5, 2) := by decide +kernel
theorem dX4_most_58 : decode cX4_most 58 = .ok (.iload 8, 2) := by decide +kernel
theorem dX4_most_60 : decode cX4_most 60 = .ok (.iconst 3, 1) := by decide +kernel
theorem dX4_most_61 : decode cX4_most 61 = .ok (.if_icmp .ne 38, 3) := by decide +kernel
theorem dX4_most_64 : decode cX4_most 64 = .ok (.lload 5, 2) := by decide +kernel
theorem dX4_most_66 : decode cX4_most 66 = .ok (.aload_n 0, 1) := by decide +kernel
theorem dX4_most_67 : decode cX4_most 67 = .ok (.iload 7, 2) := by decide +kernel
theorem dX4_most_69 : decode cX4_most 69 = .ok (.invokevirtual 72, 3) := by decide +kernel
theorem dX4_most_72 : decode cX4_most 72 = .ok (.i2l, 1) := by decide +kernel
theorem dX4_most_73 : decode cX4_most 73 = .ok (.aload_n 0, 1) := by decide +kernel
theorem dX4_most_74 : decode cX4_most 74 = .ok (.iload_n 1, 1) := by decide +kernel
theorem dX4_most_75 : decode cX4_most 75 = .ok (.iload 7, 2) := by decide +kernel
theorem dX4_most_77 : decode cX4_most 77 = .ok (.iconst 1, 1) := by decide +kernel
theorem dX4_most_78 : decode cX4_most 78 = .ok (.iadd, 1) := by decide +kernel
theorem dX4_most_79 : decode cX4_most 79 = .ok (.aload_n 0, 1) := by decide +kernel
theorem dX4_most_80 : decode cX4_most 80 = .ok (.iload 7, 2) := by decide +kernel
theorem dX4_most_82 : decode cX4_most 82 = .ok (.invokevirtual 82, 3) := by decide +kernel
theorem dX4_most_85 : decode cX4_most 85 = .ok (.iload 4, 2) := by decide +kernel
theorem dX4_most_87 : decode cX4_most 87 = .ok (.iconst 1, 1) := by decide +kernel
theorem dX4_most_88 : decode cX4_most 88 = .ok (.iadd, 1) := by decide +kernel
theorem dX4_most_89 : decode cX4_most 89 = .ok (.invokevirtual 45, 3) := by decide +kernel
theorem dX4_most_92 : decode cX4_most 92 = .ok (.lmul, 1) := by decide +kernel
theorem dX4_most_93 : decode cX4_most 93 = .ok (.ladd, 1) := by decide +kernel
theorem dX4_most_94 : decode cX4_most 94 = .ok (.lstore 5, 2) := by decide +kernel
theorem dX4_most_96 : decode cX4_most 96 = .ok (.goto 61, 3) := by decide +kernel
theorem dX4_most_99 : decode cX4_most 99 = .ok (.iload 8, 2) := by decide +kernel
theorem dX4_most_101 : decode cX4_most 101 = .ok (.iconst 4, 1) := by decide +kernel
theorem dX4_most_102 : decode cX4_most 102 = .ok (.if_icmp .ne 55, 3) := by decide +kernel
theorem dX4_most_105 : decode cX4_most 105 = .ok (.aload_n 0, 1) := by decide +kernel
theorem dX4_most_106 : decode cX4_most 106 = .ok (.iload_n 1, 1) := by decide +kernel
theorem dX4_most_107 : decode cX4_most 107 = .ok (.iload 7, 2) := by decide +kernel
theorem dX4_most_109 : decode cX4_most 109 = .ok (.iconst 1, 1) := by decide +kernel
theorem dX4_most_110 : decode cX4_most 110 = .ok (.iadd, 1) := by decide +kernel
theorem dX4_most_111 : decode cX4_most 111 = .ok (.aload_n 0, 1) := by decide +kernel
theorem dX4_most_112 : decode cX4_most 112 = .ok (.iload 7, 2) := by decide +kernel
theorem dX4_most_114 : decode cX4_most 114 = .ok (.invokevirtual 79, 3) := by decide +kernel
theorem dX4_most_117 : decode cX4_most 117 = .ok (.iload 4, 2) := by decide +kernel
theorem dX4_most_119 : decode cX4_most 119 = .ok (.iconst 1, 1) := by decide +kernel
theorem dX4_most_120 : decode cX4_most 120 = .ok (.iadd, 1) := by decide +kernel
theorem dX4_most_121 : decode cX4_most 121 = .ok (.invokevirtual 45, 3) := by decide +kernel
theorem dX4_most_124 : decode cX4_most 124 = .ok (.lstore 9, 2) := by decide +kernel
theorem dX4_most_126 : decode cX4_most 126 = .ok (.lload 5, 2) := by decide +kernel
theorem dX4_most_128 : decode cX4_most 128 = .ok (.lload 9, 2) := by decide +kernel
theorem dX4_most_130 : decode cX4_most 130 = .ok (.aload_n 0, 1) := by decide +kernel
theorem dX4_most_131 : decode cX4_most 131 = .ok (.iload_n 1, 1) := by decide +kernel
theorem dX4_most_132 : decode cX4_most 132 = .ok (.aload_n 0, 1) := by decide +kernel
theorem dX4_most_133 : decode cX4_most 133 = .ok (.iload 7, 2) := by decide +kernel
theorem dX4_most_135 : decode cX4_most 135 = .ok (.invokevirtual 79, 3) := by decide +kernel
theorem dX4_most_138 : decode cX4_most 138 = .ok (.aload_n 0, 1) := by decide +kernel
theorem dX4_most_139 : decode cX4_most 139 = .ok (.iload 7, 2) := by decide +kernel
theorem dX4_most_141 : decode cX4_most 141 = .ok (.invokevirtual 82, 3) := by decide +kernel
theorem dX4_most_144 : decode cX4_most 144 = .ok (.iload 4, 2) := by decide +kernel
theorem dX4_most_146 : decode cX4_most 146 = .ok (.iconst 1, 1) := by decide +kernel
theorem dX4_most_147 : decode cX4_most 147 = .ok (.iadd, 1) := by decide +kernel
theorem dX4_most_148 : decode cX4_most 148 = .ok (.invokevirtual 45, 3) := by decide +kernel
theorem dX4_most_151 : decode cX4_most 151 = .ok (.invokestatic 89, 3) := by decide +kernel
theorem dX4_most_154 : decode cX4_most 154 = .ok (.ladd, 1) := by decide +kernel
theorem dX4_most_155 : decode cX4_most 155 = .ok (.lstore 5, 2) := by decide +kernel
theorem dX4_most_157 : decode cX4_most 157 = .ok (.iload 7, 2) := by decide +kernel
theorem dX4_most_159 : decode cX4_most 159 = .ok (.iconst 1, 1) := by decide +kernel
theorem dX4_most_160 : decode cX4_most 160 = .ok (.iadd, 1) := by decide +kernel
theorem dX4_most_161 : decode cX4_most 161 = .ok (.aload_n 0, 1) := by decide +kernel
theorem dX4_most_162 : decode cX4_most 162 = .ok (.iload 7, 2) := by decide +kernel
theorem dX4_most_164 : decode cX4_most 164 = .ok (.invokevirtual 82, 3) := by decide +kernel
theorem dX4_most_167 : decode cX4_most 167 = .ok (.invokestatic 75, 3) := by decide +kernel
theorem dX4_most_170 : decode cX4_most 170 = .ok (.istore 7, 2) := by decide +kernel
theorem dX4_most_172 : decode cX4_most 172 = .ok (.goto (-158), 3) := by decide +kernel
theorem dX4_most_175 : decode cX4_most 175 = .ok (.lload 5, 2) := by decide +kernel
theorem dX4_most_177 : decode cX4_most 177 = .ok (.lreturn, 1) := by decide +kernel
theorem dX4_isStep_0 : decode cX4_isStep 0 = .ok (.iload_n 1, 1) := by decide +kernel
theorem dX4_isStep_1 : decode cX4_isStep 1 = .ok (.ifCond .lt 21, 3) := by decide +kernel
theorem dX4_isStep_4 : decode cX4_isStep 4 = .ok (.iload_n 1, 1) := by decide +kernel
theorem dX4_isStep_5 : decode cX4_isStep 5 = .ok (.aload_n 0, 1) := by decide +kernel
theorem dX4_isStep_6 : decode cX4_isStep 6 = .ok (.getfield 28, 3) := by decide +kernel
theorem dX4_isStep_9 : decode cX4_isStep 9 = .ok (.if_icmp .ge 13, 3) := by decide +kernel
theorem dX4_isStep_12 : decode cX4_isStep 12 = .ok (.iload_n 1, 1) := by decide +kernel
theorem dX4_isStep_13 : decode cX4_isStep 13 = .ok (.bipush 40, 2) := by decide +kernel
theorem dX4_isStep_15 : decode cX4_isStep 15 = .ok (.if_icmp .ge 7, 3) := by decide +kernel
theorem dX4_isStep_18 : decode cX4_isStep 18 = .ok (.iconst 1, 1) := by decide +kernel
theorem dX4_isStep_19 : decode cX4_isStep 19 = .ok (.goto 4, 3) := by decide +kernel
theorem dX4_isStep_22 : decode cX4_isStep 22 = .ok (.iconst 0, 1) := by decide +kernel
theorem dX4_isStep_23 : decode cX4_isStep 23 = .ok (.ireturn, 1) := by decide +kernel
theorem dX5_init_0 : decode cX5_init 0 = .ok (.aload_n 0, 1) := by decide +kernel
theorem dX5_init_1 : decode cX5_init 1 = .ok (.invokespecial 3, 3) := by decide +kernel
theorem dX5_init_4 : decode cX5_init 4 = .ok (.aload_n 0, 1) := by decide +kernel
theorem dX5_init_5 : decode cX5_init 5 = .ok (.iconst 5, 1) := by decide +kernel
theorem dX5_init_6 : decode cX5_init 6 = .ok (.newarray .int, 2) := by decide +kernel
theorem dX5_init_8 : decode cX5_init 8 = .ok (.putfield 9, 3) := by decide +kernel
theorem dX5_init_11 : decode cX5_init 11 = .ok (.aload_n 0, 1) := by decide +kernel
theorem dX5_init_12 : decode cX5_init 12 = .ok (.iconst 5, 1) := by decide +kernel
theorem dX5_init_13 : decode cX5_init 13 = .ok (.newarray .boolean, 2) := by decide +kernel
theorem dX5_init_15 : decode cX5_init 15 = .ok (.putfield 15, 3) := by decide +kernel
theorem dX5_init_18 : decode cX5_init 18 = .ok (.aload_n 0, 1) := by decide +kernel
theorem dX5_init_19 : decode cX5_init 19 = .ok (.aload_n 1, 1) := by decide +kernel
theorem dX5_init_20 : decode cX5_init 20 = .ok (.putfield 19, 3) := by decide +kernel
theorem dX5_init_23 : decode cX5_init 23 = .ok (.aload_n 0, 1) := by decide +kernel
theorem dX5_init_24 : decode cX5_init 24 = .ok (.aload_n 2, 1) := by decide +kernel
theorem dX5_init_25 : decode cX5_init 25 = .ok (.putfield 23, 3) := by decide +kernel
theorem dX5_init_28 : decode cX5_init 28 = .ok (.return_, 1) := by decide +kernel
theorem dX5_readInto_0 : decode cX5_readInto 0 = .ok (.aload_n 0, 1) := by decide +kernel
theorem dX5_readInto_1 : decode cX5_readInto 1 = .ok (.getfield 23, 3) := by decide +kernel
theorem dX5_readInto_4 : decode cX5_readInto 4 = .ok (.invokevirtual 27, 3) := by decide +kernel
theorem dX5_readInto_7 : decode cX5_readInto 7 = .ok (.aload_n 0, 1) := by decide +kernel
theorem dX5_readInto_8 : decode cX5_readInto 8 = .ok (.getfield 19, 3) := by decide +kernel
theorem dX5_readInto_11 : decode cX5_readInto 11 = .ok (.invokevirtual 32, 3) := by decide +kernel
theorem dX5_readInto_14 : decode cX5_readInto 14 = .ok (.sipush 200, 3) := by decide +kernel
theorem dX5_readInto_17 : decode cX5_readInto 17 = .ok (.if_icmp .le 16, 3) := by decide +kernel
theorem dX5_readInto_20 : decode cX5_readInto 20 = .ok (.aload_n 0, 1) := by decide +kernel
theorem dX5_readInto_21 : decode cX5_readInto 21 = .ok (.getfield 23, 3) := by decide +kernel
theorem dX5_readInto_24 : decode cX5_readInto 24 = .ok (.iconst 1, 1) := by decide +kernel
theorem dX5_readInto_25 : decode cX5_readInto 25 = .ok (.sipush 200, 3) := by decide +kernel
theorem dX5_readInto_28 : decode cX5_readInto 28 = .ok (.invokevirtual 38, 3) := by decide +kernel
theorem dX5_readInto_31 : decode cX5_readInto 31 = .ok (.iconst 0, 1) := by decide +kernel
theorem dX5_readInto_32 : decode cX5_readInto 32 = .ok (.ireturn, 1) := by decide +kernel
theorem dX5_readInto_33 : decode cX5_readInto 33 = .ok (.aload_n 1, 1) := by decide +kernel
theorem dX5_readInto_34 : decode cX5_readInto 34 = .ok (.invokevirtual 42, 3) := by decide +kernel
theorem dX5_readInto_37 : decode cX5_readInto 37 = .ok (.aload_n 0, 1) := by decide +kernel
theorem dX5_readInto_38 : decode cX5_readInto 38 = .ok (.iconst 0, 1) := by decide +kernel
theorem dX5_readInto_39 : decode cX5_readInto 39 = .ok (.putfield 47, 3) := by decide +kernel
theorem dX5_readInto_42 : decode cX5_readInto 42 = .ok (.aload_n 0, 1) := by decide +kernel
theorem dX5_readInto_43 : decode cX5_readInto 43 = .ok (.iconst 0, 1) := by decide +kernel
theorem dX5_readInto_44 : decode cX5_readInto 44 = .ok (.putfield 51, 3) := by decide +kernel
theorem dX5_readInto_47 : decode cX5_readInto 47 = .ok (.aload_n 0, 1) := by decide +kernel
theorem dX5_readInto_48 : decode cX5_readInto 48 = .ok (.invokevirtual 54, 3) := by decide +kernel
theorem dX5_readInto_51 : decode cX5_readInto 51 = .ok (.iconst 1, 1) := by decide +kernel
theorem dX5_readInto_52 : decode cX5_readInto 52 = .ok (.istore_n 2, 1) := by decide +kernel
theorem dX5_readInto_53 : decode cX5_readInto 53 = .ok (.iconst 0, 1) := by decide +kernel
theorem dX5_readInto_54 : decode cX5_readInto 54 = .ok (.istore_n 3, 1) := by decide +kernel
theorem dX5_readInto_55 : decode cX5_readInto 55 = .ok (.iload_n 3, 1) := by decide +kernel
theorem dX5_readInto_56 : decode cX5_readInto 56 = .ok (.sipush 200, 3) := by decide +kernel
theorem dX5_readInto_59 : decode cX5_readInto 59 = .ok (.if_icmp .ge 43, 3) := by decide +kernel
theorem dX5_readInto_62 : decode cX5_readInto 62 = .ok (.iload_n 2, 1) := by decide +kernel
theorem dX5_readInto_63 : decode cX5_readInto 63 = .ok (.ifCond .eq 39, 3) := by decide +kernel
theorem dX5_readInto_66 : decode cX5_readInto 66 = .ok (.aload_n 0, 1) := by decide +kernel
theorem dX5_readInto_67 : decode cX5_readInto 67 = .ok (.getfield 57, 3) := by decide +kernel
theorem dX5_readInto_70 : decode cX5_readInto 70 = .ok (.ifCond .eq 32, 3) := by decide +kernel
theorem dX5_readInto_73 : decode cX5_readInto 73 = .ok (.aload_n 0, 1) := by decide +kernel
theorem dX5_readInto_74 : decode cX5_readInto 74 = .ok (.bipush 125, 2) := by decide +kernel
theorem dX5_readInto_76 : decode cX5_readInto 76 = .ok (.invokevirtual 60, 3) := by decide +kernel
theorem dX5_readInto_79 : decode cX5_readInto 79 = .ok (.ifCond .eq 11, 3) := by decide +kernel
theorem dX5_readInto_82 : decode cX5_readInto 82 = .ok (.aload_n 0, 1) := by decide +kernel
theorem dX5_readInto_83 : decode cX5_readInto 83 = .ok (.aload_n 1, 1) := by decide +kernel
theorem dX5_readInto_84 : decode cX5_readInto 84 = .ok (.invokevirtual 64, 3) := by decide +kernel
theorem dX5_readInto_87 : decode cX5_readInto 87 = .ok (.goto 8, 3) := by decide +kernel
theorem dX5_readInto_90 : decode cX5_readInto 90 = .ok (.aload_n 0, 1) := by decide +kernel
theorem dX5_readInto_91 : decode cX5_readInto 91 = .ok (.aload_n 1, 1) := by decide +kernel
theorem dX5_readInto_92 : decode cX5_readInto 92 = .ok (.invokevirtual 68, 3) := by decide +kernel
theorem dX5_readInto_95 : decode cX5_readInto 95 = .ok (.istore_n 2, 1) := by decide +kernel
theorem dX5_readInto_96 : decode cX5_readInto 96 = .ok (.iinc 3 1, 3) := by decide +kernel
theorem dX5_readInto_99 : decode cX5_readInto 99 = .ok (.goto (-44), 3) := by decide +kernel
theorem dX5_readInto_102 : decode cX5_readInto 102 = .ok (.iload_n 2, 1) := by decide +kernel
theorem dX5_readInto_103 : decode cX5_readInto 103 = .ok (.ifCond .eq 16, 3) := by decide +kernel
theorem dX5_readInto_106 : decode cX5_readInto 106 = .ok (.aload_n 0, 1) := by decide +kernel
theorem dX5_readInto_107 : decode cX5_readInto 107 = .ok (.getfield 47, 3) := by decide +kernel
theorem dX5_readInto_110 : decode cX5_readInto 110 = .ok (.ifCond .le 9, 3) := by decide +kernel
theorem dX5_readInto_113 : decode cX5_readInto 113 = .ok (.aload_n 0, 1) := by decide +kernel
theorem dX5_readInto_114 : decode cX5_readInto 114 = .ok (.iconst 1, 1) := by decide +kernel
theorem dX5_readInto_115 : decode cX5_readInto 115 = .ok (.invokevirtual 71, 3) := by decide +kernel
theorem dX5_readInto_118 : decode cX5_readInto 118 = .ok (.istore_n 2, 1) := by decide +kernel
theorem dX5_readInto_119 : decode cX5_readInto 119 = .ok (.iload_n 2, 1) := by decide +kernel
theorem dX5_readInto_120 : decode cX5_readInto 120 = .ok (.ifCond .eq 7, 3) := by decide +kernel
theorem dX5_readInto_123 : decode cX5_readInto 123 = .ok (.aload_n 1, 1) := by decide +kernel
theorem dX5_readInto_124 : decode cX5_readInto 124 = .ok (.invokevirtual 74, 3) := by decide +kernel
theorem dX5_readInto_127 : decode cX5_readInto 127 = .ok (.iload_n 2, 1) := by decide +kernel
theorem dX5_readInto_128 : decode cX5_readInto 128 = .ok (.ireturn, 1) := by decide +kernel
theorem dX5_takeStep_0 : decode cX5_takeStep 0 = .ok (.aload_n 0, 1) := by decide +kernel
theorem dX5_takeStep_1 : decode cX5_takeStep 1 = .ok (.invokevirtual 77, 3) := by decide +kernel
theorem dX5_takeStep_4 : decode cX5_takeStep 4 = .ok (.istore_n 2, 1) := by decide +kernel
theorem dX5_takeStep_5 : decode cX5_takeStep 5 = .ok (.iload_n 2, 1) := by decide +kernel
theorem dX5_takeStep_6 : decode cX5_takeStep 6 = .ok (.iconst (-1), 1) := by decide +kernel
theorem dX5_takeStep_7 : decode cX5_takeStep 7 = .ok (.if_icmp .ne 9, 3) := by decide +kernel
theorem dX5_takeStep_10 : decode cX5_takeStep 10 = .ok (.aload_n 0, 1) := by decide +kernel
theorem dX5_takeStep_11 : decode cX5_takeStep 11 = .ok (.iconst 1, 1) := by decide +kernel
theorem dX5_takeStep_12 : decode cX5_takeStep 12 = .ok (.invokevirtual 71, 3) := by decide +kernel
theorem dX5_takeStep_15 : decode cX5_takeStep 15 = .ok (.ireturn, 1) := by decide +kernel
theorem dX5_takeStep_16 : decode cX5_takeStep 16 = .ok (.iload_n 2, 1) := by decide +kernel
theorem dX5_takeStep_17 : decode cX5_takeStep 17 = .ok (.iconst 3, 1) := by decide +kernel
theorem dX5_takeStep_18 : decode cX5_takeStep 18 = .ok (.if_icmp .eq 8, 3) := by decide +kernel
theorem dX5_takeStep_21 : decode cX5_takeStep 21 = .ok (.iload_n 2, 1) := by decide +kernel
theorem dX5_takeStep_22 : decode cX5_takeStep 22 = .ok (.iconst 4, 1) := by decide +kernel
theorem dX5_takeStep_23 : decode cX5_takeStep 23 = .ok (.if_icmp .ne 7, 3) := by decide +kernel
theorem dX5_takeStep_26 : decode cX5_takeStep 26 = .ok (.iconst 1, 1) := by decide +kernel
theorem dX5_takeStep_27 : decode cX5_takeStep 27 = .ok (.goto 4, 3) := by decide +kernel
theorem dX5_takeStep_30 : decode cX5_takeStep 30 = .ok (.iconst 0, 1) := by decide +kernel
theorem dX5_takeStep_31 : decode cX5_takeStep 31 = .ok (.istore_n 3, 1) := by decide +kernel
theorem dX5_takeStep_32 : decode cX5_takeStep 32 = .ok (.aload_n 1, 1) := by decide +kernel
theorem dX5_takeStep_33 : decode cX5_takeStep 33 = .ok (.invokevirtual 80, 3) := by decide +kernel
theorem dX5_takeStep_36 : decode cX5_takeStep 36 = .ok (.ifCond .ne 15, 3) := by decide +kernel
theorem dX5_takeStep_39 : decode cX5_takeStep 39 = .ok (.iload_n 3, 1) := by decide +kernel
theorem dX5_takeStep_40 : decode cX5_takeStep 40 = .ok (.ifCond .eq 17, 3) := by decide +kernel
theorem dX5_takeStep_43 : decode cX5_takeStep 43 = .ok (.aload_n 0, 1) := by decide +kernel
theorem dX5_takeStep_44 : decode cX5_takeStep 44 = .ok (.getfield 47, 3) := by decide +kernel
theorem dX5_takeStep_47 : decode cX5_takeStep 47 = .ok (.iconst 5, 1) := by decide +kernel
theorem dX5_takeStep_48 : decode cX5_takeStep 48 = .ok (.if_icmp .lt 9, 3) := by decide +kernel
theorem dX5_takeStep_51 : decode cX5_takeStep 51 = .ok (.aload_n 0, 1) := by decide +kernel
theorem dX5_takeStep_52 : decode cX5_takeStep 52 = .ok (.iconst 3, 1) := by decide +kernel
theorem dX5_takeStep_53 : decode cX5_takeStep 53 = .ok (.invokevirtual 71, 3) := by decide +kernel
theorem dX5_takeStep_56 : decode cX5_takeStep 56 = .ok (.ireturn, 1) := by decide +kernel
theorem dX5_takeStep_57 : decode cX5_takeStep 57 = .ok (.aload_n 1, 1) := by decide +kernel
theorem dX5_takeStep_58 : decode cX5_takeStep 58 = .ok (.iload_n 2, 1) := by decide +kernel
theorem dX5_takeStep_59 : decode cX5_takeStep 59 = .ok (.invokevirtual 84, 3) := by decide +kernel
theorem dX5_takeStep_62 : decode cX5_takeStep 62 = .ok (.istore 4, 2) := by decide +kernel
theorem dX5_takeStep_64 : decode cX5_takeStep 64 = .ok (.aload_n 0, 1) := by decide +kernel
theorem dX5_takeStep_65 : decode cX5_takeStep 65 = .ok (.invokevirtual 54, 3) := by decide +kernel
theorem dX5_takeStep_68 : decode cX5_takeStep 68 = .ok (.iload_n 2, 1) := by decide +kernel
theorem dX5_takeStep_69 : decode cX5_takeStep 69 = .ok (.tableswitch 123 0 3 #[31, 59, 87, 94], 31) := by decide +kernel
theorem dX5_takeStep_100 : decode cX5_takeStep 100 = .ok (.aload_n 0, 1) := by decide +kernel
theorem dX5_takeStep_101 : decode cX5_takeStep 101 = .ok (.aload_n 1, 1) := by decide +kernel
theorem dX5_takeStep_102 : decode cX5_takeStep 102 = .ok (.iload 4, 2) := by decide +kernel
theorem dX5_takeStep_104 : decode cX5_takeStep 104 = .ok (.iconst 0, 1) := by decide +kernel
theorem dX5_takeStep_105 : decode cX5_takeStep 105 = .ok (.bipush 30, 2) := by decide +kernel
theorem dX5_takeStep_107 : decode cX5_takeStep 107 = .ok (.invokevirtual 88, 3) := by decide +kernel
theorem dX5_takeStep_110 : decode cX5_takeStep 110 = .ok (.ifCond .eq 16, 3) := by decide +kernel
theorem dX5_takeStep_113 : decode cX5_takeStep 113 = .ok (.aload_n 0, 1) := by decide +kernel
theorem dX5_takeStep_114 : decode cX5_takeStep 114 = .ok (.bipush 59, 2) := by decide +kernel
theorem dX5_takeStep_116 : decode cX5_takeStep 116 = .ok (.invokevirtual 92, 3) := by decide +kernel
theorem dX5_takeStep_119 : decode cX5_takeStep 119 = .ok (.ifCond .eq 7, 3) := by decide +kernel
theorem dX5_takeStep_122 : decode cX5_takeStep 122 = .ok (.iconst 1, 1) := by decide +kernel
theorem dX5_takeStep_123 : decode cX5_takeStep 123 = .ok (.goto 4, 3) := by decide +kernel
theorem dX5_takeStep_126 : decode cX5_takeStep 126 = .ok (.iconst 0, 1) := by decide +kernel
theorem dX5_takeStep_127 : decode cX5_takeStep 127 = .ok (.ireturn, 1) := by decide +kernel
theorem dX5_takeStep_128 : decode cX5_takeStep 128 = .ok (.aload_n 0, 1) := by decide +kernel
theorem dX5_takeStep_129 : decode cX5_takeStep 129 = .ok (.aload_n 1, 1) := by decide +kernel
theorem dX5_takeStep_130 : decode cX5_takeStep 130 = .ok (.iload 4, 2) := by decide +kernel
theorem dX5_takeStep_132 : decode cX5_takeStep 132 = .ok (.iconst 1, 1) := by decide +kernel
theorem dX5_takeStep_133 : decode cX5_takeStep 133 = .ok (.bipush 50, 2) := by decide +kernel
theorem dX5_takeStep_135 : decode cX5_takeStep 135 = .ok (.invokevirtual 88, 3) := by decide +kernel
theorem dX5_takeStep_138 : decode cX5_takeStep 138 = .ok (.ifCond .eq 16, 3) := by decide +kernel
theorem dX5_takeStep_141 : decode cX5_takeStep 141 = .ok (.aload_n 0, 1) := by decide +kernel
theorem dX5_takeStep_142 : decode cX5_takeStep 142 = .ok (.bipush 59, 2) := by decide +kernel
theorem dX5_takeStep_144 : decode cX5_takeStep 144 = .ok (.invokevirtual 92, 3) := by decide +kernel
theorem dX5_takeStep_147 : decode cX5_takeStep 147 = .ok (.ifCond .eq 7, 3) := by decide +kernel
theorem dX5_takeStep_150 : decode cX5_takeStep 150 = .ok (.iconst 1, 1) := by decide +kernel
theorem dX5_takeStep_151 : decode cX5_takeStep 151 = .ok (.goto 4, 3) := by decide +kernel
theorem dX5_takeStep_154 : decode cX5_takeStep 154 = .ok (.iconst 0, 1) := by decide +kernel
theorem dX5_takeStep_155 : decode cX5_takeStep 155 = .ok (.ireturn, 1) := by decide +kernel
theorem dX5_takeStep_156 : decode cX5_takeStep 156 = .ok (.aload_n 0, 1) := by decide +kernel
theorem dX5_takeStep_157 : decode cX5_takeStep 157 = .ok (.bipush 59, 2) := by decide +kernel
theorem dX5_takeStep_159 : decode cX5_takeStep 159 = .ok (.invokevirtual 92, 3) := by decide +kernel
theorem dX5_takeStep_162 : decode cX5_takeStep 162 = .ok (.ireturn, 1) := by decide +kernel
theorem dX5_takeStep_163 : decode cX5_takeStep 163 = .ok (.aload_n 0, 1) := by decide +kernel
theorem dX5_takeStep_164 : decode cX5_takeStep 164 = .ok (.aload_n 1, 1) := by decide +kernel
theorem dX5_takeStep_165 : decode cX5_takeStep 165 = .ok (.iload 4, 2) := by decide +kernel
theorem dX5_takeStep_167 : decode cX5_takeStep 167 = .ok (.iconst 1, 1) := by decide +kernel
theorem dX5_takeStep_168 : decode cX5_takeStep 168 = .ok (.bipush 50, 2) := by decide +kernel
theorem dX5_takeStep_170 : decode cX5_takeStep 170 = .ok (.invokevirtual 88, 3) := by decide +kernel
theorem dX5_takeStep_173 : decode cX5_takeStep 173 = .ok (.ifCond .eq 17, 3) := by decide +kernel
theorem dX5_takeStep_176 : decode cX5_takeStep 176 = .ok (.aload_n 0, 1) := by decide +kernel
theorem dX5_takeStep_177 : decode cX5_takeStep 177 = .ok (.iload 4, 2) := by decide +kernel
theorem dX5_takeStep_179 : decode cX5_takeStep 179 = .ok (.iconst 0, 1) := by decide +kernel
theorem dX5_takeStep_180 : decode cX5_takeStep 180 = .ok (.invokevirtual 95, 3) := by decide +kernel
theorem dX5_takeStep_183 : decode cX5_takeStep 183 = .ok (.ifCond .eq 7, 3) := by decide +kernel
theorem dX5_takeStep_186 : decode cX5_takeStep 186 = .ok (.iconst 1, 1) := by decide +kernel
theorem dX5_takeStep_187 : decode cX5_takeStep 187 = .ok (.goto 4, 3) := by decide +kernel
theorem dX5_takeStep_190 : decode cX5_takeStep 190 = .ok (.iconst 0, 1) := by decide +kernel
theorem dX5_takeStep_191 : decode cX5_takeStep 191 = .ok (.ireturn, 1) := by decide +kernel
theorem dX5_takeStep_192 : decode cX5_takeStep 192 = .ok (.aload_n 0, 1) := by decide +kernel
theorem dX5_takeStep_193 : decode cX5_takeStep 193 = .ok (.iload 4, 2) := by decide +kernel
theorem dX5_takeStep_195 : decode cX5_takeStep 195 = .ok (.iconst 1, 1) := by decide +kernel
theorem dX5_takeStep_196 : decode cX5_takeStep 196 = .ok (.invokevirtual 95, 3) := by decide +kernel
theorem dX5_takeStep_199 : decode cX5_takeStep 199 = .ok (.ireturn, 1) := by decide +kernel
theorem dX5_takeOpening_0 : decode cX5_takeOpening 0 = .ok (.aload_n 0, 1) := by decide +kernel
theorem dX5_takeOpening_1 : decode cX5_takeOpening 1 = .ok (.bipush 123, 2) := by decide +kernel
theorem dX5_takeOpening_3 : decode cX5_takeOpening 3 = .ok (.invokevirtual 92, 3) := by decide +kernel
theorem dX5_takeOpening_6 : decode cX5_takeOpening 6 = .ok (.ifCond .ne 5, 3) := by decide +kernel
theorem dX5_takeOpening_9 : decode cX5_takeOpening 9 = .ok (.iconst 0, 1) := by decide +kernel
theorem dX5_takeOpening_10 : decode cX5_takeOpening 10 = .ok (.ireturn, 1) := by decide +kernel
theorem dX5_takeOpening_11 : decode cX5_takeOpening 11 = .ok (.aload_n 0, 1) := by decide +kernel
theorem dX5_takeOpening_12 : decode cX5_takeOpening 12 = .ok (.getfield 47, 3) := by decide +kernel
theorem dX5_takeOpening_15 : decode cX5_takeOpening 15 = .ok (.ifCond .lt 41, 3) := by decide +kernel
theorem dX5_takeOpening_18 : decode cX5_takeOpening 18 = .ok (.aload_n 0, 1) := by decide +kernel
theorem dX5_takeOpening_19 : decode cX5_takeOpening 19 = .ok (.getfield 47, 3) := by decide +kernel
theorem dX5_takeOpening_22 : decode cX5_takeOpening 22 = .ok (.iconst 5, 1) := by decide +kernel
theorem dX5_takeOpening_23 : decode cX5_takeOpening 23 = .ok (.if_icmp .ge 33, 3) := by decide +kernel
theorem dX5_takeOpening_26 : decode cX5_takeOpening 26 = .ok (.aload_n 0, 1) := by decide +kernel
theorem dX5_takeOpening_27 : decode cX5_takeOpening 27 = .ok (.getfield 9, 3) := by decide +kernel
theorem dX5_takeOpening_30 : decode cX5_takeOpening 30 = .ok (.aload_n 0, 1) := by decide +kernel
theorem dX5_takeOpening_31 : decode cX5_takeOpening 31 = .ok (.getfield 47, 3) := by decide +kernel
theorem dX5_takeOpening_34 : decode cX5_takeOpening 34 = .ok (.iload_n 1, 1) := by decide +kernel
theorem dX5_takeOpening_35 : decode cX5_takeOpening 35 = .ok (.iastore, 1) := by decide +kernel
theorem dX5_takeOpening_36 : decode cX5_takeOpening 36 = .ok (.aload_n 0, 1) := by decide +kernel
theorem dX5_takeOpening_37 : decode cX5_takeOpening 37 = .ok (.getfield 15, 3) := by decide +kernel
theorem dX5_takeOpening_40 : decode cX5_takeOpening 40 = .ok (.aload_n 0, 1) := by decide +kernel
theorem dX5_takeOpening_41 : decode cX5_takeOpening 41 = .ok (.getfield 47, 3) := by decide +kernel
theorem dX5_takeOpening_44 : decode cX5_takeOpening 44 = .ok (.iload_n 2, 1) := by decide +kernel
theorem dX5_takeOpening_45 : decode cX5_takeOpening 45 = .ok (.bastore, 1) := by decide +kernel
theorem dX5_takeOpening_46 : decode cX5_takeOpening 46 = .ok (.aload_n 0, 1) := by decide +kernel
theorem dX5_takeOpening_47 : decode cX5_takeOpening 47 = .ok (.dup, 1) := by decide +kernel
theorem dX5_takeOpening_48 : decode cX5_takeOpening 48 = .ok (.getfield 47, 3) := by decide +kernel
theorem dX5_takeOpening_51 : decode cX5_takeOpening 51 = .ok (.iconst 1, 1) := by decide +kernel
theorem dX5_takeOpening_52 : decode cX5_takeOpening 52 = .ok (.iadd, 1) := by decide +kernel
theorem dX5_takeOpening_53 : decode cX5_takeOpening 53 = .ok (.putfield 47, 3) := by decide +kernel
theorem dX5_takeOpening_56 : decode cX5_takeOpening 56 = .ok (.iconst 1, 1) := by decide +kernel
theorem dX5_takeOpening_57 : decode cX5_takeOpening 57 = .ok (.ireturn, 1) := by decide +kernel
theorem dX5_takeClosing_0 : decode cX5_takeClosing 0 = .ok (.aload_n 0, 1) := by decide +kernel
theorem dX5_takeClosing_1 : decode cX5_takeClosing 1 = .ok (.getfield 47, 3) := by decide +kernel
theorem dX5_takeClosing_4 : decode cX5_takeClosing 4 = .ok (.iconst 1, 1) := by decide +kernel
theorem dX5_takeClosing_5 : decode cX5_takeClosing 5 = .ok (.isub, 1) := by decide +kernel
theorem dX5_takeClosing_6 : decode cX5_takeClosing 6 = .ok (.istore_n 2, 1) := by decide +kernel
theorem dX5_takeClosing_7 : decode cX5_takeClosing 7 = .ok (.iload_n 2, 1) := by decide +kernel
theorem dX5_takeClosing_8 : decode cX5_takeClosing 8 = .ok (.iconst 0, 1) := by decide +kernel
theorem dX5_takeClosing_9 : decode cX5_takeClosing 9 = .ok (.iconst 4, 1) := by decide +kernel
theorem dX5_takeClosing_10 : decode cX5_takeClosing 10 = .ok (.invokestatic 99, 3) := by decide +kernel
theorem dX5_takeClosing_13 : decode cX5_takeClosing 13 = .ok (.ifCond .ne 9, 3) := by decide +kernel
theorem dX5_takeClosing_16 : decode cX5_takeClosing 16 = .ok (.aload_n 0, 1) := by decide +kernel
theorem dX5_takeClosing_17 : decode cX5_takeClosing 17 = .ok (.iconst 1, 1) := by decide +kernel
theorem dX5_takeClosing_18 : decode cX5_takeClosing 18 = .ok (.invokevirtual 71, 3) := by decide +kernel
theorem dX5_takeClosing_21 : decode cX5_takeClosing 21 = .ok (.ireturn, 1) := by decide +kernel
theorem dX5_takeClosing_22 : decode cX5_takeClosing 22 = .ok (.aload_n 0, 1) := by decide +kernel
theorem dX5_takeClosing_23 : decode cX5_takeClosing 23 = .ok (.invokevirtual 54, 3) := by decide +kernel
theorem dX5_takeClosing_26 : decode cX5_takeClosing 26 = .ok (.aload_n 0, 1) := by decide +kernel
theorem dX5_takeClosing_27 : decode cX5_takeClosing 27 = .ok (.getfield 15, 3) := by decide +kernel
theorem dX5_takeClosing_30 : decode cX5_takeClosing 30 = .ok (.iload_n 2, 1) := by decide +kernel
theorem dX5_takeClosing_31 : decode cX5_takeClosing 31 = .ok (.baload, 1) := by decide +kernel
theorem dX5_takeClosing_32 : decode cX5_takeClosing 32 = .ok (.ifCond .ne 25, 3) := by decide +kernel
theorem dX5_takeClosing_35 : decode cX5_takeClosing 35 = .ok (.aload_n 1, 1) := by decide +kernel
theorem dX5_takeClosing_36 : decode cX5_takeClosing 36 = .ok (.aload_n 0, 1) := by decide +kernel
theorem dX5_takeClosing_37 : decode cX5_takeClosing 37 = .ok (.getfield 9, 3) := by decide +kernel
theorem dX5_takeClosing_40 : decode cX5_takeClosing 40 = .ok (.iload_n 2, 1) := by decide +kernel
theorem dX5_takeClosing_41 : decode cX5_takeClosing 41 = .ok (.iaload, 1) := by decide +kernel
theorem dX5_takeClosing_42 : decode cX5_takeClosing 42 = .ok (.invokevirtual 103, 3) := by decide +kernel
theorem dX5_takeClosing_45 : decode cX5_takeClosing 45 = .ok (.aload_n 0, 1) := by decide +kernel
theorem dX5_takeClosing_46 : decode cX5_takeClosing 46 = .ok (.dup, 1) := by decide +kernel
theorem dX5_takeClosing_47 : decode cX5_takeClosing 47 = .ok (.getfield 47, 3) := by decide +kernel
theorem dX5_takeClosing_50 : decode cX5_takeClosing 50 = .ok (.iconst 1, 1) := by decide +kernel
theorem dX5_takeClosing_51 : decode cX5_takeClosing 51 = .ok (.isub, 1) := by decide +kernel
theorem dX5_takeClosing_52 : decode cX5_takeClosing 52 = .ok (.putfield 47, 3) := by decide +kernel
theorem dX5_takeClosing_55 : decode cX5_takeClosing 55 = .ok (.iconst 1, 1) := by decide +kernel
theorem dX5_takeClosing_56 : decode cX5_takeClosing 56 = .ok (.ireturn, 1) := by decide +kernel
theorem dX5_takeClosing_57 : decode cX5_takeClosing 57 = .ok (.aload_n 0, 1) := by decide +kernel
theorem dX5_takeClosing_58 : decode cX5_takeClosing 58 = .ok (.ldc 107, 2) := by decide +kernel
theorem dX5_takeClosing_60 : decode cX5_takeClosing 60 = .ok (.invokevirtual 109, 3) := by decide +kernel
theorem dX5_takeClosing_63 : decode cX5_takeClosing 63 = .ok (.ifCond .ne 9, 3) := by decide +kernel
theorem dX5_takeClosing_66 : decode cX5_takeClosing 66 = .ok (.aload_n 0, 1) := by decide +kernel
theorem dX5_takeClosing_67 : decode cX5_takeClosing 67 = .ok (.iconst 1, 1) := by decide +kernel
theorem dX5_takeClosing_68 : decode cX5_takeClosing 68 = .ok (.invokevirtual 71, 3) := by decide +kernel
theorem dX5_takeClosing_71 : decode cX5_takeClosing 71 = .ok (.ireturn, 1) := by decide +kernel
theorem dX5_takeClosing_72 : decode cX5_takeClosing 72 = .ok (.aload_n 0, 1) := by decide +kernel
theorem dX5_takeClosing_73 : decode cX5_takeClosing 73 = .ok (.invokevirtual 54, 3) := by decide +kernel
theorem dX5_takeClosing_76 : decode cX5_takeClosing 76 = .ok (.aload_n 0, 1) := by decide +kernel
theorem dX5_takeClosing_77 : decode cX5_takeClosing 77 = .ok (.getfield 15, 3) := by decide +kernel
theorem dX5_takeClosing_80 : decode cX5_takeClosing 80 = .ok (.iload_n 2, 1) := by decide +kernel
theorem dX5_takeClosing_81 : decode cX5_takeClosing 81 = .ok (.iconst 0, 1) := by decide +kernel
theorem dX5_takeClosing_82 : decode cX5_takeClosing 82 = .ok (.bastore, 1) := by decide +kernel
theorem dX5_takeClosing_83 : decode cX5_takeClosing 83 = .ok (.aload_n 1, 1) := by decide +kernel
theorem dX5_takeClosing_84 : decode cX5_takeClosing 84 = .ok (.aload_n 0, 1) := by decide +kernel
theorem dX5_takeClosing_85 : decode cX5_takeClosing 85 = .ok (.getfield 9, 3) := by decide +kernel
theorem dX5_takeClosing_88 : decode cX5_takeClosing 88 = .ok (.iload_n 2, 1) := by decide +kernel
theorem dX5_takeClosing_89 : decode cX5_takeClosing 89 = .ok (.iaload, 1) := by decide +kernel
theorem dX5_takeClosing_90 : decode cX5_takeClosing 90 = .ok (.invokevirtual 113, 3) := by decide +kernel
theorem dX5_takeClosing_93 : decode cX5_takeClosing 93 = .ok (.aload_n 0, 1) := by decide +kernel
theorem dX5_takeClosing_94 : decode cX5_takeClosing 94 = .ok (.bipush 123, 2) := by decide +kernel
theorem dX5_takeClosing_96 : decode cX5_takeClosing 96 = .ok (.invokevirtual 92, 3) := by decide +kernel
theorem dX5_takeClosing_99 : decode cX5_takeClosing 99 = .ok (.ireturn, 1) := by decide +kernel
theorem dX5_takeNumber_0 : decode cX5_takeNumber 0 = .ok (.aload_n 0, 1) := by decide +kernel
theorem dX5_takeNumber_1 : decode cX5_takeNumber 1 = .ok (.getfield 57, 3) := by decide +kernel
theorem dX5_takeNumber_4 : decode cX5_takeNumber 4 = .ok (.iconst 2, 1) := by decide +kernel
theorem dX5_takeNumber_5 : decode cX5_takeNumber 5 = .ok (.if_icmp .eq 9, 3) := by decide +kernel
theorem dX5_takeNumber_8 : decode cX5_takeNumber 8 = .ok (.aload_n 0, 1) := by decide +kernel
theorem dX5_takeNumber_9 : decode cX5_takeNumber 9 = .ok (.iconst 1, 1) := by decide +kernel
theorem dX5_takeNumber_10 : decode cX5_takeNumber 10 = .ok (.invokevirtual 71, 3) := by decide +kernel
theorem dX5_takeNumber_13 : decode cX5_takeNumber 13 = .ok (.ireturn, 1) := by decide +kernel
theorem dX5_takeNumber_14 : decode cX5_takeNumber 14 = .ok (.aload_n 0, 1) := by decide +kernel
theorem dX5_takeNumber_15 : decode cX5_takeNumber 15 = .ok (.invokevirtual 116, 3) := by decide +kernel
theorem dX5_takeNumber_18 : decode cX5_takeNumber 18 = .ok (.istore 5, 2) := by decide +kernel
theorem dX5_takeNumber_20 : decode cX5_takeNumber 20 = .ok (.iload 5, 2) := by decide +kernel
theorem dX5_takeNumber_22 : decode cX5_takeNumber 22 = .ok (.iload_n 3, 1) := by decide +kernel
theorem dX5_takeNumber_23 : decode cX5_takeNumber 23 = .ok (.iload 4, 2) := by decide +kernel
theorem dX5_takeNumber_25 : decode cX5_takeNumber 25 = .ok (.invokestatic 99, 3) := by decide +kernel
theorem dX5_takeNumber_28 : decode cX5_takeNumber 28 = .ok (.ifCond .ne 9, 3) := by decide +kernel
theorem dX5_takeNumber_31 : decode cX5_takeNumber 31 = .ok (.aload_n 0, 1) := by decide +kernel
theorem dX5_takeNumber_32 : decode cX5_takeNumber 32 = .ok (.iconst 2, 1) := by decide +kernel
theorem dX5_takeNumber_33 : decode cX5_takeNumber 33 = .ok (.invokevirtual 71, 3) := by decide +kernel
theorem dX5_takeNumber_36 : decode cX5_takeNumber 36 = .ok (.ireturn, 1) := by decide +kernel
theorem dX5_takeNumber_37 : decode cX5_takeNumber 37 = .ok (.aload_n 1, 1) := by decide +kernel
theorem dX5_takeNumber_38 : decode cX5_takeNumber 38 = .ok (.iload_n 2, 1) := by decide +kernel
theorem dX5_takeNumber_39 : decode cX5_takeNumber 39 = .ok (.iload 5, 2) := by decide +kernel
theorem dX5_takeNumber_41 : decode cX5_takeNumber 41 = .ok (.invokevirtual 119, 3) := by decide +kernel
theorem dX5_takeNumber_44 : decode cX5_takeNumber 44 = .ok (.aload_n 0, 1) := by decide +kernel
theorem dX5_takeNumber_45 : decode cX5_takeNumber 45 = .ok (.invokevirtual 54, 3) := by decide +kernel
theorem dX5_takeNumber_48 : decode cX5_takeNumber 48 = .ok (.iconst 1, 1) := by decide +kernel
theorem dX5_takeNumber_49 : decode cX5_takeNumber 49 = .ok (.ireturn, 1) := by decide +kernel
theorem dX5_takeSign_0 : decode cX5_takeSign 0 = .ok (.aload_n 0, 1) := by decide +kernel
theorem dX5_takeSign_1 : decode cX5_takeSign 1 = .ok (.iload_n 1, 1) := by decide +kernel
theorem dX5_takeSign_2 : decode cX5_takeSign 2 = .ok (.invokevirtual 60, 3) := by decide +kernel
theorem dX5_takeSign_5 : decode cX5_takeSign 5 = .ok (.ifCond .ne 9, 3) := by decide +kernel
theorem dX5_takeSign_8 : decode cX5_takeSign 8 = .ok (.aload_n 0, 1) := by decide +kernel
theorem dX5_takeSign_9 : decode cX5_takeSign 9 = .ok (.iconst 1, 1) := by decide +kernel
theorem dX5_takeSign_10 : decode cX5_takeSign 10 = .ok (.invokevirtual 71, 3) := by decide +kernel
theorem dX5_takeSign_13 : decode cX5_takeSign 13 = .ok (.ireturn, 1) := by decide +kernel
theorem dX5_takeSign_14 : decode cX5_takeSign 14 = .ok (.aload_n 0, 1) := by decide +kernel
theorem dX5_takeSign_15 : decode cX5_takeSign 15 = .ok (.invokevirtual 54, 3) := by decide +kernel
theorem dX5_takeSign_18 : decode cX5_takeSign 18 = .ok (.iconst 1, 1) := by decide +kernel
theorem dX5_takeSign_19 : decode cX5_takeSign 19 = .ok (.ireturn, 1) := by decide +kernel
theorem dX5_refuse_0 : decode cX5_refuse 0 = .ok (.aload_n 0, 1) := by decide +kernel
theorem dX5_refuse_1 : decode cX5_refuse 1 = .ok (.getfield 23, 3) := by decide +kernel
theorem dX5_refuse_4 : decode cX5_refuse 4 = .ok (.iload_n 1, 1) := by decide +kernel
theorem dX5_refuse_5 : decode cX5_refuse 5 = .ok (.aload_n 0, 1) := by decide +kernel
theorem dX5_refuse_6 : decode cX5_refuse 6 = .ok (.getfield 122, 3) := by decide +kernel
theorem dX5_refuse_9 : decode cX5_refuse 9 = .ok (.invokevirtual 38, 3) := by decide +kernel
theorem dX5_refuse_12 : decode cX5_refuse 12 = .ok (.iconst 0, 1) := by decide +kernel
theorem dX5_refuse_13 : decode cX5_refuse 13 = .ok (.ireturn, 1) := by decide +kernel
theorem dX5_stepKind_0 : decode cX5_stepKind 0 = .ok (.aload_n 0, 1) := by decide +kernel
theorem dX5_stepKind_1 : decode cX5_stepKind 1 = .ok (.ldc 125, 2) := by decide +kernel
theorem dX5_stepKind_3 : decode cX5_stepKind 3 = .ok (.invokevirtual 109, 3) := by decide +kernel
theorem dX5_stepKind_6 : decode cX5_stepKind 6 = .ok (.ifCond .eq 5, 3) := by decide +kernel
theorem dX5_stepKind_9 : decode cX5_stepKind 9 = .ok (.iconst 0, 1) := by decide +kernel
theorem dX5_stepKind_10 : decode cX5_stepKind 10 = .ok (.ireturn, 1) := by decide +kernel
theorem dX5_stepKind_11 : decode cX5_stepKind 11 = .ok (.aload_n 0, 1) := by decide +kernel
theorem dX5_stepKind_12 : decode cX5_stepKind 12 = .ok (.ldc 127, 2) := by decide +kernel
theorem dX5_stepKind_14 : decode cX5_stepKind 14 = .ok (.invokevirtual 109, 3) := by decide +kernel
theorem dX5_stepKind_17 : decode cX5_stepKind 17 = .ok (.ifCond .eq 5, 3) := by decide +kernel
theorem dX5_stepKind_20 : decode cX5_stepKind 20 = .ok (.iconst 1, 1) := by decide +kernel
theorem dX5_stepKind_21 : decode cX5_stepKind 21 = .ok (.ireturn, 1) := by decide +kernel
theorem dX5_stepKind_22 : decode cX5_stepKind 22 = .ok (.aload_n 0, 1) := by decide +kernel
theorem dX5_stepKind_23 : decode cX5_stepKind 23 = .ok (.ldc 129, 2) := by decide +kernel
theorem dX5_stepKind_25 : decode cX5_stepKind 25 = .ok (.invokevirtual 109, 3) := by decide +kernel
theorem dX5_stepKind_28 : decode cX5_stepKind 28 = .ok (.ifCond .eq 5, 3) := by decide +kernel
theorem dX5_stepKind_31 : decode cX5_stepKind 31 = .ok (.iconst 2, 1) := by decide +kernel
theorem dX5_stepKind_32 : decode cX5_stepKind 32 = .ok (.ireturn, 1) := by decide +kernel
theorem dX5_stepKind_33 : decode cX5_stepKind 33 = .ok (.aload_n 0, 1) := by decide +kernel
theorem dX5_stepKind_34 : decode cX5_stepKind 34 = .ok (.ldc 131, 2) := by decide +kernel
theorem dX5_stepKind_36 : decode cX5_stepKind 36 = .ok (.invokevirtual 109, 3) := by decide +kernel
theorem dX5_stepKind_39 : decode cX5_stepKind 39 = .ok (.ifCond .eq 5, 3) := by decide +kernel
theorem dX5_stepKind_42 : decode cX5_stepKind 42 = .ok (.iconst 3, 1) := by decide +kernel
theorem dX5_stepKind_43 : decode cX5_stepKind 43 = .ok (.ireturn, 1) := by decide +kernel
theorem dX5_stepKind_44 : decode cX5_stepKind 44 = .ok (.aload_n 0, 1) := by decide +kernel
theorem dX5_stepKind_45 : decode cX5_stepKind 45 = .ok (.ldc 133, 2) := by decide +kernel
theorem dX5_stepKind_47 : decode cX5_stepKind 47 = .ok (.invokevirtual 109, 3) := by decide +kernel
theorem dX5_stepKind_50 : decode cX5_stepKind 50 = .ok (.ifCond .eq 7, 3) := by decide +kernel
theorem dX5_stepKind_53 : decode cX5_stepKind 53 = .ok (.iconst 4, 1) := by decide +kernel
theorem dX5_stepKind_54 : decode cX5_stepKind 54 = .ok (.goto 4, 3) := by decide +kernel
theorem dX5_stepKind_57 : decode cX5_stepKind 57 = .ok (.iconst (-1), 1) := by decide +kernel
theorem dX5_stepKind_58 : decode cX5_stepKind 58 = .ok (.ireturn, 1) := by decide +kernel
theorem dX5_isWord_0 : decode cX5_isWord 0 = .ok (.aload_n 0, 1) := by decide +kernel
theorem dX5_isWord_1 : decode cX5_isWord 1 = .ok (.getfield 57, 3) := by decide +kernel
theorem dX5_isWord_4 : decode cX5_isWord 4 = .ok (.iconst 1, 1) := by decide +kernel
theorem dX5_isWord_5 : decode cX5_isWord 5 = .ok (.if_icmp .ne 19, 3) := by decide +kernel
theorem dX5_isWord_8 : decode cX5_isWord 8 = .ok (.aload_n 0, 1) := by decide +kernel
theorem dX5_isWord_9 : decode cX5_isWord 9 = .ok (.getfield 51, 3) := by decide +kernel
theorem dX5_isWord_12 : decode cX5_isWord 12 = .ok (.aload_n 0, 1) := by decide +kernel
theorem dX5_isWord_13 : decode cX5_isWord 13 = .ok (.getfield 122, 3) := by decide +kernel
theorem dX5_isWord_16 : decode cX5_isWord 16 = .ok (.isub, 1) := by decide +kernel
theorem dX5_isWord_17 : decode cX5_isWord 17 = .ok (.aload_n 1, 1) := by decide +kernel
theorem dX5_isWord_18 : decode cX5_isWord 18 = .ok (.invokevirtual 135, 3) := by decide +kernel
theorem dX5_isWord_21 : decode cX5_isWord 21 = .ok (.if_icmp .eq 5, 3) := by decide +kernel
theorem dX5_isWord_24 : decode cX5_isWord 24 = .ok (.iconst 0, 1) := by decide +kernel
theorem dX5_isWord_25 : decode cX5_isWord 25 = .ok (.ireturn, 1) := by decide +kernel
theorem dX5_isWord_26 : decode cX5_isWord 26 = .ok (.iconst 0, 1) := by decide +kernel
theorem dX5_isWord_27 : decode cX5_isWord 27 = .ok (.istore_n 2, 1) := by decide +kernel
theorem dX5_isWord_28 : decode cX5_isWord 28 = .ok (.iload_n 2, 1) := by decide +kernel
theorem dX5_isWord_29 : decode cX5_isWord 29 = .ok (.aload_n 1, 1) := by decide +kernel
theorem dX5_isWord_30 : decode cX5_isWord 30 = .ok (.invokevirtual 135, 3) := by decide +kernel
theorem dX5_isWord_33 : decode cX5_isWord 33 = .ok (.if_icmp .ge 32, 3) := by decide +kernel
theorem dX5_isWord_36 : decode cX5_isWord 36 = .ok (.aload_n 0, 1) := by decide +kernel
theorem dX5_isWord_37 : decode cX5_isWord 37 = .ok (.getfield 19, 3) := by decide +kernel
theorem dX5_isWord_40 : decode cX5_isWord 40 = .ok (.aload_n 0, 1) := by decide +kernel
theorem dX5_isWord_41 : decode cX5_isWord 41 = .ok (.getfield 122, 3) := by decide +kernel
theorem dX5_isWord_44 : decode cX5_isWord 44 = .ok (.iload_n 2, 1) := by decide +kernel
theorem dX5_isWord_45 : decode cX5_isWord 45 = .ok (.iadd, 1) := by decide +kernel
theorem dX5_isWord_46 : decode cX5_isWord 46 = .ok (.invokevirtual 140, 3) := by decide +kernel
theorem dX5_isWord_49 : decode cX5_isWord 49 = .ok (.aload_n 1, 1) := by decide +kernel
theorem dX5_isWord_50 : decode cX5_isWord 50 = .ok (.iload_n 2, 1) := by decide +kernel
theorem dX5_isWord_51 : decode cX5_isWord 51 = .ok (.invokevirtual 143, 3) := by decide +kernel
theorem dX5_isWord_54 : decode cX5_isWord 54 = .ok (.if_icmp .eq 5, 3) := by decide +kernel
theorem dX5_isWord_57 : decode cX5_isWord 57 = .ok (.iconst 0, 1) := by decide +kernel
theorem dX5_isWord_58 : decode cX5_isWord 58 = .ok (.ireturn, 1) := by decide +kernel
theorem dX5_isWord_59 : decode cX5_isWord 59 = .ok (.iinc 2 1, 3) := by decide +kernel
theorem dX5_isWord_62 : decode cX5_isWord 62 = .ok (.goto (-34), 3) := by decide +kernel
theorem dX5_isWord_65 : decode cX5_isWord 65 = .ok (.iconst 1, 1) := by decide +kernel
theorem dX5_isWord_66 : decode cX5_isWord 66 = .ok (.ireturn, 1) := by decide +kernel
theorem dX5_isSign_0 : decode cX5_isSign 0 = .ok (.aload_n 0, 1) := by decide +kernel
theorem dX5_isSign_1 : decode cX5_isSign 1 = .ok (.getfield 57, 3) := by decide +kernel
theorem dX5_isSign_4 : decode cX5_isSign 4 = .ok (.iconst 3, 1) := by decide +kernel
theorem dX5_isSign_5 : decode cX5_isSign 5 = .ok (.if_icmp .ne 22, 3) := by decide +kernel
theorem dX5_isSign_8 : decode cX5_isSign 8 = .ok (.aload_n 0, 1) := by decide +kernel
theorem dX5_isSign_9 : decode cX5_isSign 9 = .ok (.getfield 19, 3) := by decide +kernel
theorem dX5_isSign_12 : decode cX5_isSign 12 = .ok (.aload_n 0, 1) := by decide +kernel
theorem dX5_isSign_13 : decode cX5_isSign 13 = .ok (.getfield 122, 3) := by decide +kernel
theorem dX5_isSign_16 : decode cX5_isSign 16 = .ok (.invokevirtual 140, 3) := by decide +kernel
theorem dX5_isSign_19 : decode cX5_isSign 19 = .ok (.iload_n 1, 1) := by decide +kernel
theorem dX5_isSign_20 : decode cX5_isSign 20 = .ok (.if_icmp .ne 7, 3) := by decide +kernel
theorem dX5_isSign_23 : decode cX5_isSign 23 = .ok (.iconst 1, 1) := by decide +kernel
theorem dX5_isSign_24 : decode cX5_isSign 24 = .ok (.goto 4, 3) := by decide +kernel
theorem dX5_isSign_27 : decode cX5_isSign 27 = .ok (.iconst 0, 1) := by decide +kernel
theorem dX5_isSign_28 : decode cX5_isSign 28 = .ok (.ireturn, 1) := by decide +kernel
theorem dX5_tokenNumber_0 : decode cX5_tokenNumber 0 = .ok (.iconst 0, 1) := by decide +kernel
theorem dX5_tokenNumber_1 : decode cX5_tokenNumber 1 = .ok (.istore_n 1, 1) := by decide +kernel
theorem dX5_tokenNumber_2 : decode cX5_tokenNumber 2 = .ok (.aload_n 0, 1) := by decide +kernel
theorem dX5_tokenNumber_3 : decode cX5_tokenNumber 3 = .ok (.getfield 122, 3) := by decide +kernel
theorem dX5_tokenNumber_6 : decode cX5_tokenNumber 6 = .ok (.istore_n 2, 1) := by decide +kernel
theorem dX5_tokenNumber_7 : decode cX5_tokenNumber 7 = .ok (.iload_n 2, 1) := by decide +kernel
theorem dX5_tokenNumber_8 : decode cX5_tokenNumber 8 = .ok (.aload_n 0, 1) := by decide +kernel
theorem dX5_tokenNumber_9 : decode cX5_tokenNumber 9 = .ok (.getfield 51, 3) := by decide +kernel
theorem dX5_tokenNumber_12 : decode cX5_tokenNumber 12 = .ok (.if_icmp .ge 32, 3) := by decide +kernel
theorem dX5_tokenNumber_15 : decode cX5_tokenNumber 15 = .ok (.sipush 1000, 3) := by decide +kernel
theorem dX5_tokenNumber_18 : decode cX5_tokenNumber 18 = .ok (.iload_n 1, 1) := by decide +kernel
theorem dX5_tokenNumber_19 : decode cX5_tokenNumber 19 = .ok (.bipush 10, 2) := by decide +kernel
theorem dX5_tokenNumber_21 : decode cX5_tokenNumber 21 = .ok (.imul, 1) := by decide +kernel
theorem dX5_tokenNumber_22 : decode cX5_tokenNumber 22 = .ok (.aload_n 0, 1) := by decide +kernel
theorem dX5_tokenNumber_23 : decode cX5_tokenNumber 23 = .ok (.getfield 19, 3) := by decide +kernel
theorem dX5_tokenNumber_26 : decode cX5_tokenNumber 26 = .ok (.iload_n 2, 1) := by decide +kernel
theorem dX5_tokenNumber_27 : decode cX5_tokenNumber 27 = .ok (.invokevirtual 140, 3) := by decide +kernel
theorem dX5_tokenNumber_30 : decode cX5_tokenNumber 30 = .ok (.iadd, 1) := by decide +kernel
theorem dX5_tokenNumber_31 : decode cX5_tokenNumber 31 = .ok (.bipush 48, 2) := by decide +kernel
theorem dX5_tokenNumber_33 : decode cX5_tokenNumber 33 = .ok (.isub, 1) := by decide +kernel
theorem dX5_tokenNumber_34 : decode cX5_tokenNumber 34 = .ok (.invokestatic 147, 3) := by decide +kernel
theorem dX5_tokenNumber_37 : decode cX5_tokenNumber 37 = .ok (.istore_n 1, 1) := by decide +kernel
theorem dX5_tokenNumber_38 : decode cX5_tokenNumber 38 = .ok (.iinc 2 1, 3) := by decide +kernel
theorem dX5_tokenNumber_41 : decode cX5_tokenNumber 41 = .ok (.goto (-34), 3) := by decide +kernel
theorem dX5_tokenNumber_44 : decode cX5_tokenNumber 44 = .ok (.iload_n 1, 1) := by decide +kernel
theorem dX5_tokenNumber_45 : decode cX5_tokenNumber 45 = .ok (.ireturn, 1) := by decide +kernel
theorem dX5_nextToken_0 : decode cX5_nextToken 0 = .ok (.aload_n 0, 1) := by decide +kernel
theorem dX5_nextToken_1 : decode cX5_nextToken 1 = .ok (.aload_n 0, 1) := by decide +kernel
theorem dX5_nextToken_2 : decode cX5_nextToken 2 = .ok (.aload_n 0, 1) := by decide +kernel
theorem dX5_nextToken_3 : decode cX5_nextToken 3 = .ok (.getfield 51, 3) := by decide +kernel
theorem dX5_nextToken_6 : decode cX5_nextToken 6 = .ok (.invokevirtual 153, 3) := by decide +kernel
theorem dX5_nextToken_9 : decode cX5_nextToken 9 = .ok (.putfield 122, 3) := by decide +kernel
theorem dX5_nextToken_12 : decode cX5_nextToken 12 = .ok (.aload_n 0, 1) := by decide +kernel
theorem dX5_nextToken_13 : decode cX5_nextToken 13 = .ok (.aload_n 0, 1) := by decide +kernel
theorem dX5_nextToken_14 : decode cX5_nextToken 14 = .ok (.getfield 19, 3) := by decide +kernel
theorem dX5_nextToken_17 : decode cX5_nextToken 17 = .ok (.aload_n 0, 1) := by decide +kernel
theorem dX5_nextToken_18 : decode cX5_nextToken 18 = .ok (.getfield 122, 3) := by decide +kernel
theorem dX5_nextToken_21 : decode cX5_nextToken 21 = .ok (.invokevirtual 140, 3) := by decide +kernel
theorem dX5_nextToken_24 : decode cX5_nextToken 24 = .ok (.invokestatic 156, 3) := by decide +kernel
theorem dX5_nextToken_27 : decode cX5_nextToken 27 = .ok (.putfield 57, 3) := by decide +kernel
theorem dX5_nextToken_30 : decode cX5_nextToken 30 = .ok (.aload_n 0, 1) := by decide +kernel
theorem dX5_nextToken_31 : decode cX5_nextToken 31 = .ok (.aload_n 0, 1) := by decide +kernel
theorem dX5_nextToken_32 : decode cX5_nextToken 32 = .ok (.getfield 122, 3) := by decide +kernel
theorem dX5_nextToken_35 : decode cX5_nextToken 35 = .ok (.iconst 1, 1) := by decide +kernel
theorem dX5_nextToken_36 : decode cX5_nextToken 36 = .ok (.iadd, 1) := by decide +kernel
theorem dX5_nextToken_37 : decode cX5_nextToken 37 = .ok (.aload_n 0, 1) := by decide +kernel
theorem dX5_nextToken_38 : decode cX5_nextToken 38 = .ok (.getfield 19, 3) := by decide +kernel
theorem dX5_nextToken_41 : decode cX5_nextToken 41 = .ok (.invokevirtual 32, 3) := by decide +kernel
theorem dX5_nextToken_44 : decode cX5_nextToken 44 = .ok (.invokestatic 147, 3) := by decide +kernel
theorem dX5_nextToken_47 : decode cX5_nextToken 47 = .ok (.putfield 51, 3) := by decide +kernel
theorem dX5_nextToken_50 : decode cX5_nextToken 50 = .ok (.aload_n 0, 1) := by decide +kernel
theorem dX5_nextToken_51 : decode cX5_nextToken 51 = .ok (.getfield 57, 3) := by decide +kernel
theorem dX5_nextToken_54 : decode cX5_nextToken 54 = .ok (.iconst 1, 1) := by decide +kernel
theorem dX5_nextToken_55 : decode cX5_nextToken 55 = .ok (.if_icmp .eq 11, 3) := by decide +kernel
theorem dX5_nextToken_58 : decode cX5_nextToken 58 = .ok (.aload_n 0, 1) := by decide +kernel
theorem dX5_nextToken_59 : decode cX5_nextToken 59 = .ok (.getfield 57, 3) := by decide +kernel
theorem dX5_nextToken_62 : decode cX5_nextToken 62 = .ok (.iconst 2, 1) := by decide +kernel
theorem dX5_nextToken_63 : decode cX5_nextToken 63 = .ok (.if_icmp .ne 19, 3) := by decide +kernel
theorem dX5_nextToken_66 : decode cX5_nextToken 66 = .ok (.aload_n 0, 1) := by decide +kernel
theorem dX5_nextToken_67 : decode cX5_nextToken 67 = .ok (.aload_n 0, 1) := by decide +kernel
theorem dX5_nextToken_68 : decode cX5_nextToken 68 = .ok (.aload_n 0, 1) := by decide +kernel
theorem dX5_nextToken_69 : decode cX5_nextToken 69 = .ok (.getfield 122, 3) := by decide +kernel
theorem dX5_nextToken_72 : decode cX5_nextToken 72 = .ok (.aload_n 0, 1) := by decide +kernel
theorem dX5_nextToken_73 : decode cX5_nextToken 73 = .ok (.getfield 57, 3) := by decide +kernel
theorem dX5_nextToken_76 : decode cX5_nextToken 76 = .ok (.invokevirtual 159, 3) := by decide +kernel
theorem dX5_nextToken_79 : decode cX5_nextToken 79 = .ok (.putfield 51, 3) := by decide +kernel
theorem dX5_nextToken_82 : decode cX5_nextToken 82 = .ok (.return_, 1) := by decide +kernel
theorem dX5_behindBlanks_0 : decode cX5_behindBlanks 0 = .ok (.iload_n 1, 1) := by decide +kernel
theorem dX5_behindBlanks_1 : decode cX5_behindBlanks 1 = .ok (.istore_n 2, 1) := by decide +kernel
theorem dX5_behindBlanks_2 : decode cX5_behindBlanks 2 = .ok (.iload_n 2, 1) := by decide +kernel
theorem dX5_behindBlanks_3 : decode cX5_behindBlanks 3 = .ok (.aload_n 0, 1) := by decide +kernel
theorem dX5_behindBlanks_4 : decode cX5_behindBlanks 4 = .ok (.getfield 19, 3) := by decide +kernel
theorem dX5_behindBlanks_7 : decode cX5_behindBlanks 7 = .ok (.invokevirtual 32, 3) := by decide +kernel
theorem dX5_behindBlanks_10 : decode cX5_behindBlanks 10 = .ok (.if_icmp .ge 37, 3) := by decide +kernel
theorem dX5_behindBlanks_13 : decode cX5_behindBlanks 13 = .ok (.aload_n 0, 1) := by decide +kernel
theorem dX5_behindBlanks_14 : decode cX5_behindBlanks 14 = .ok (.getfield 19, 3) := by decide +kernel
theorem dX5_behindBlanks_17 : decode cX5_behindBlanks 17 = .ok (.iload_n 2, 1) := by decide +kernel
theorem dX5_behindBlanks_18 : decode cX5_behindBlanks 18 = .ok (.invokevirtual 140, 3) := by decide +kernel
theorem dX5_behindBlanks_21 : decode cX5_behindBlanks 21 = .ok (.bipush 32, 2) := by decide +kernel
theorem dX5_behindBlanks_23 : decode cX5_behindBlanks 23 = .ok (.if_icmp .eq 18, 3) := by decide +kernel
theorem dX5_behindBlanks_26 : decode cX5_behindBlanks 26 = .ok (.aload_n 0, 1) := by decide +kernel
theorem dX5_behindBlanks_27 : decode cX5_behindBlanks 27 = .ok (.getfield 19, 3) := by decide +kernel
theorem dX5_behindBlanks_30 : decode cX5_behindBlanks 30 = .ok (.iload_n 2, 1) := by decide +kernel
theorem dX5_behindBlanks_31 : decode cX5_behindBlanks 31 = .ok (.invokevirtual 140, 3) := by decide +kernel
theorem dX5_behindBlanks_34 : decode cX5_behindBlanks 34 = .ok (.bipush 10, 2) := by decide +kernel
theorem dX5_behindBlanks_36 : decode cX5_behindBlanks 36 = .ok (.if_icmp .eq 5, 3) := by decide +kernel
theorem dX5_behindBlanks_39 : decode cX5_behindBlanks 39 = .ok (.iload_n 2, 1) := by decide +kernel
theorem dX5_behindBlanks_40 : decode cX5_behindBlanks 40 = .ok (.ireturn, 1) := by decide +kernel
theorem dX5_behindBlanks_41 : decode cX5_behindBlanks 41 = .ok (.iinc 2 1, 3) := by decide +kernel
theorem dX5_behindBlanks_44 : decode cX5_behindBlanks 44 = .ok (.goto (-42), 3) := by decide +kernel
theorem dX5_behindBlanks_47 : decode cX5_behindBlanks 47 = .ok (.aload_n 0, 1) := by decide +kernel
theorem dX5_behindBlanks_48 : decode cX5_behindBlanks 48 = .ok (.getfield 19, 3) := by decide +kernel
theorem dX5_behindBlanks_51 : decode cX5_behindBlanks 51 = .ok (.invokevirtual 32, 3) := by decide +kernel
theorem dX5_behindBlanks_54 : decode cX5_behindBlanks 54 = .ok (.ireturn, 1) := by decide +kernel
theorem dX5_behindSame_0 : decode cX5_behindSame 0 = .ok (.iload_n 1, 1) := by decide +kernel
theorem dX5_behindSame_1 : decode cX5_behindSame 1 = .ok (.istore_n 3, 1) := by decide +kernel
theorem dX5_behindSame_2 : decode cX5_behindSame 2 = .ok (.iload_n 3, 1) := by decide +kernel
theorem dX5_behindSame_3 : decode cX5_behindSame 3 = .ok (.aload_n 0, 1) := by decide +kernel
theorem dX5_behindSame_4 : decode cX5_behindSame 4 = .ok (.getfield 19, 3) := by decide +kernel
theorem dX5_behindSame_7 : decode cX5_behindSame 7 = .ok (.invokevirtual 32, 3) := by decide +kernel
theorem dX5_behindSame_10 : decode cX5_behindSame 10 = .ok (.if_icmp .ge 26, 3) := by decide +kernel
theorem dX5_behindSame_13 : decode cX5_behindSame 13 = .ok (.aload_n 0, 1) := by decide +kernel
theorem dX5_behindSame_14 : decode cX5_behindSame 14 = .ok (.getfield 19, 3) := by decide +kernel
theorem dX5_behindSame_17 : decode cX5_behindSame 17 = .ok (.iload_n 3, 1) := by decide +kernel
theorem dX5_behindSame_18 : decode cX5_behindSame 18 = .ok (.invokevirtual 140, 3) := by decide +kernel
theorem dX5_behindSame_21 : decode cX5_behindSame 21 = .ok (.invokestatic 156, 3) := by decide +kernel
theorem dX5_behindSame_24 : decode cX5_behindSame 24 = .ok (.iload_n 2, 1) := by decide +kernel
theorem dX5_behindSame_25 : decode cX5_behindSame 25 = .ok (.if_icmp .eq 5, 3) := by decide +kernel
theorem dX5_behindSame_28 : decode cX5_behindSame 28 = .ok (.iload_n 3, 1) := by decide +kernel
theorem dX5_behindSame_29 : decode cX5_behindSame 29 = .ok (.ireturn, 1) := by decide +kernel
theorem dX5_behindSame_30 : decode cX5_behindSame 30 = .ok (.iinc 3 1, 3) := by decide +kernel
theorem dX5_behindSame_33 : decode cX5_behindSame 33 = .ok (.goto (-31), 3) := by decide +kernel
theorem dX5_behindSame_36 : decode cX5_behindSame 36 = .ok (.aload_n 0, 1) := by decide +kernel
theorem dX5_behindSame_37 : decode cX5_behindSame 37 = .ok (.getfield 19, 3) := by decide +kernel
theorem dX5_behindSame_40 : decode cX5_behindSame 40 = .ok (.invokevirtual 32, 3) := by decide +kernel
theorem dX5_behindSame_43 : decode cX5_behindSame 43 = .ok (.ireturn, 1) := by decide +kernel
theorem dX5_kindOfByte_0 : decode cX5_kindOfByte 0 = .ok (.iload_n 0, 1) := by decide +kernel
theorem dX5_kindOfByte_1 : decode cX5_kindOfByte 1 = .ok (.iconst (-1), 1) := by decide +kernel
theorem dX5_kindOfByte_2 : decode cX5_kindOfByte 2 = .ok (.if_icmp .ne 5, 3) := by decide +kernel
theorem dX5_kindOfByte_5 : decode cX5_kindOfByte 5 = .ok (.iconst 0, 1) := by decide +kernel
theorem dX5_kindOfByte_6 : decode cX5_kindOfByte 6 = .ok (.ireturn, 1) := by decide +kernel
theorem dX5_kindOfByte_7 : decode cX5_kindOfByte 7 = .ok (.iload_n 0, 1) := by decide +kernel
theorem dX5_kindOfByte_8 : decode cX5_kindOfByte 8 = .ok (.bipush 97, 2) := by decide +kernel
theorem dX5_kindOfByte_10 : decode cX5_kindOfByte 10 = .ok (.if_icmp .lt 9, 3) := by decide +kernel
theorem dX5_kindOfByte_13 : decode cX5_kindOfByte 13 = .ok (.iload_n 0, 1) := by decide +kernel
theorem dX5_kindOfByte_14 : decode cX5_kindOfByte 14 = .ok (.bipush 122, 2) := by decide +kernel
theorem dX5_kindOfByte_16 : decode cX5_kindOfByte 16 = .ok (.if_icmp .le 15, 3) := by decide +kernel
theorem dX5_kindOfByte_19 : decode cX5_kindOfByte 19 = .ok (.iload_n 0, 1) := by decide +kernel
theorem dX5_kindOfByte_20 : decode cX5_kindOfByte 20 = .ok (.bipush 65, 2) := by decide +kernel
theorem dX5_kindOfByte_22 : decode cX5_kindOfByte 22 = .ok (.if_icmp .lt 11, 3) := by decide +kernel
theorem dX5_kindOfByte_25 : decode cX5_kindOfByte 25 = .ok (.iload_n 0, 1) := by decide +kernel
theorem dX5_kindOfByte_26 : decode cX5_kindOfByte 26 = .ok (.bipush 90, 2) := by decide +kernel
theorem dX5_kindOfByte_28 : decode cX5_kindOfByte 28 = .ok (.if_icmp .gt 5, 3) := by decide +kernel
theorem dX5_kindOfByte_31 : decode cX5_kindOfByte 31 = .ok (.iconst 1, 1) := by decide +kernel
theorem dX5_kindOfByte_32 : decode cX5_kindOfByte 32 = .ok (.ireturn, 1) := by decide +kernel
theorem dX5_kindOfByte_33 : decode cX5_kindOfByte 33 = .ok (.iload_n 0, 1) := by decide +kernel
theorem dX5_kindOfByte_34 : decode cX5_kindOfByte 34 = .ok (.bipush 48, 2) := by decide +kernel
theorem dX5_kindOfByte_36 : decode cX5_kindOfByte 36 = .ok (.if_icmp .lt 11, 3) := by decide +kernel
theorem dX5_kindOfByte_39 : decode cX5_kindOfByte 39 = .ok (.iload_n 0, 1) := by decide +kernel
theorem dX5_kindOfByte_40 : decode cX5_kindOfByte 40 = .ok (.bipush 57, 2) := by decide +kernel
theorem dX5_kindOfByte_42 : decode cX5_kindOfByte 42 = .ok (.if_icmp .gt 5, 3) := by decide +kernel
theorem dX5_kindOfByte_45 : decode cX5_kindOfByte 45 = .ok (.iconst 2, 1) := by decide +kernel
theorem dX5_kindOfByte_46 : decode cX5_kindOfByte 46 = .ok (.ireturn, 1) := by decide +kernel
theorem dX5_kindOfByte_47 : decode cX5_kindOfByte 47 = .ok (.iload_n 0, 1) := by decide +kernel
theorem dX5_kindOfByte_48 : decode cX5_kindOfByte 48 = .ok (.bipush 59, 2) := by decide +kernel
theorem dX5_kindOfByte_50 : decode cX5_kindOfByte 50 = .ok (.if_icmp .eq 15, 3) := by decide +kernel
theorem dX5_kindOfByte_53 : decode cX5_kindOfByte 53 = .ok (.iload_n 0, 1) := by decide +kernel
theorem dX5_kindOfByte_54 : decode cX5_kindOfByte 54 = .ok (.bipush 123, 2) := by decide +kernel
theorem dX5_kindOfByte_56 : decode cX5_kindOfByte 56 = .ok (.if_icmp .eq 9, 3) := by decide +kernel
theorem dX5_kindOfByte_59 : decode cX5_kindOfByte 59 = .ok (.iload_n 0, 1) := by decide +kernel
theorem dX5_kindOfByte_60 : decode cX5_kindOfByte 60 = .ok (.bipush 125, 2) := by decide +kernel
theorem dX5_kindOfByte_62 : decode cX5_kindOfByte 62 = .ok (.if_icmp .ne 7, 3) := by decide +kernel
theorem dX5_kindOfByte_65 : decode cX5_kindOfByte 65 = .ok (.iconst 3, 1) := by decide +kernel
theorem dX5_kindOfByte_66 : decode cX5_kindOfByte 66 = .ok (.goto 4, 3) := by decide +kernel
theorem dX5_kindOfByte_69 : decode cX5_kindOfByte 69 = .ok (.iconst 4, 1) := by decide +kernel
theorem dX5_kindOfByte_70 : decode cX5_kindOfByte 70 = .ok (.ireturn, 1) := by decide +kernel
theorem dX6_init_0 : decode cX6_init 0 = .ok (.aload_n 0, 1) := by decide +kernel
theorem dX6_init_1 : decode cX6_init 1 = .ok (.invokespecial 3, 3) := by decide +kernel
theorem dX6_init_4 : decode cX6_init 4 = .ok (.aload_n 0, 1) := by decide +kernel
theorem dX6_init_5 : decode cX6_init 5 = .ok (.sipush 400, 3) := by decide +kernel
theorem dX6_init_8 : decode cX6_init 8 = .ok (.newarray .int, 2) := by decide +kernel
theorem dX6_init_10 : decode cX6_init 10 = .ok (.putfield 9, 3) := by decide +kernel
theorem dX6_init_13 : decode cX6_init 13 = .ok (.return_, 1) := by decide +kernel
theorem dX6_size_0 : decode cX6_size 0 = .ok (.aload_n 0, 1) := by decide +kernel
theorem dX6_size_1 : decode cX6_size 1 = .ok (.getfield 15, 3) := by decide +kernel
theorem dX6_size_4 : decode cX6_size 4 = .ok (.ireturn, 1) := by decide +kernel
theorem dX6_at_0 : decode cX6_at 0 = .ok (.iload_n 1, 1) := by decide +kernel
theorem dX6_at_1 : decode cX6_at 1 = .ok (.ifCond .lt 27, 3) := by decide +kernel
theorem dX6_at_4 : decode cX6_at 4 = .ok (.iload_n 1, 1) := by decide +kernel
theorem dX6_at_5 : decode cX6_at 5 = .ok (.aload_n 0, 1) := by decide +kernel
theorem dX6_at_6 : decode cX6_at 6 = .ok (.getfield 15, 3) := by decide +kernel
theorem dX6_at_9 : decode cX6_at 9 = .ok (.if_icmp .ge 19, 3) := by decide +kernel
theorem dX6_at_12 : decode cX6_at 12 = .ok (.iload_n 1, 1) := by decide +kernel
theorem dX6_at_13 : decode cX6_at 13 = .ok (.sipush 400, 3) := by decide +kernel
theorem dX6_at_16 : decode cX6_at 16 = .ok (.if_icmp .ge 12, 3) := by decide +kernel
theorem dX6_at_19 : decode cX6_at 19 = .ok (.aload_n 0, 1) := by decide +kernel
theorem dX6_at_20 : decode cX6_at 20 = .ok (.getfield 9, 3) := by decide +kernel
theorem dX6_at_23 : decode cX6_at 23 = .ok (.iload_n 1, 1) := by decide +kernel
theorem dX6_at_24 : decode cX6_at 24 = .ok (.iaload, 1) := by decide +kernel
theorem dX6_at_25 : decode cX6_at 25 = .ok (.goto 4, 3) := by decide +kernel
theorem dX6_at_28 : decode cX6_at 28 = .ok (.iconst (-1), 1) := by decide +kernel
theorem dX6_at_29 : decode cX6_at 29 = .ok (.ireturn, 1) := by decide +kernel
theorem dX6_cutTo_0 : decode cX6_cutTo 0 = .ok (.iload_n 1, 1) := by decide +kernel
theorem dX6_cutTo_1 : decode cX6_cutTo 1 = .ok (.ifCond .lt 11, 3) := by decide +kernel
theorem dX6_cutTo_4 : decode cX6_cutTo 4 = .ok (.iload_n 1, 1) := by decide +kernel
theorem dX6_cutTo_5 : decode cX6_cutTo 5 = .ok (.aload_n 0, 1) := by decide +kernel
theorem dX6_cutTo_6 : decode cX6_cutTo 6 = .ok (.getfield 15, 3) := by decide +kernel
theorem dX6_cutTo_9 : decode cX6_cutTo 9 = .ok (.if_icmp .le 5, 3) := by decide +kernel
theorem dX6_cutTo_12 : decode cX6_cutTo 12 = .ok (.iconst 0, 1) := by decide +kernel
theorem dX6_cutTo_13 : decode cX6_cutTo 13 = .ok (.ireturn, 1) := by decide +kernel
theorem dX6_cutTo_14 : decode cX6_cutTo 14 = .ok (.aload_n 0, 1) := by decide +kernel
theorem dX6_cutTo_15 : decode cX6_cutTo 15 = .ok (.iload_n 1, 1) := by decide +kernel
theorem dX6_cutTo_16 : decode cX6_cutTo 16 = .ok (.putfield 15, 3) := by decide +kernel
theorem dX6_cutTo_19 : decode cX6_cutTo 19 = .ok (.iconst 1, 1) := by decide +kernel
theorem dX6_cutTo_20 : decode cX6_cutTo 20 = .ok (.ireturn, 1) := by decide +kernel
theorem dX6_add_0 : decode cX6_add 0 = .ok (.aload_n 0, 1) := by decide +kernel
theorem dX6_add_1 : decode cX6_add 1 = .ok (.getfield 15, 3) := by decide +kernel
theorem dX6_add_4 : decode cX6_add 4 = .ok (.ifCond .lt 37, 3) := by decide +kernel
theorem dX6_add_7 : decode cX6_add 7 = .ok (.aload_n 0, 1) := by decide +kernel
theorem dX6_add_8 : decode cX6_add 8 = .ok (.getfield 15, 3) := by decide +kernel
theorem dX6_add_11 : decode cX6_add 11 = .ok (.sipush 400, 3) := by decide +kernel
theorem dX6_add_14 : decode cX6_add 14 = .ok (.if_icmp .ge 27, 3) := by decide +kernel
theorem dX6_add_17 : decode cX6_add 17 = .ok (.aload_n 0, 1) := by decide +kernel
theorem dX6_add_18 : decode cX6_add 18 = .ok (.getfield 9, 3) := by decide +kernel
theorem dX6_add_21 : decode cX6_add 21 = .ok (.aload_n 0, 1) := by decide +kernel
theorem dX6_add_22 : decode cX6_add 22 = .ok (.getfield 15, 3) := by decide +kernel
theorem dX6_add_25 : decode cX6_add 25 = .ok (.iload_n 1, 1) := by decide +kernel
theorem dX6_add_26 : decode cX6_add 26 = .ok (.sipush 255, 3) := by decide +kernel
theorem dX6_add_29 : decode cX6_add 29 = .ok (.iand, 1) := by decide +kernel
theorem dX6_add_30 : decode cX6_add 30 = .ok (.iastore, 1) := by decide +kernel
theorem dX6_add_31 : decode cX6_add 31 = .ok (.aload_n 0, 1) := by decide +kernel
theorem dX6_add_32 : decode cX6_add 32 = .ok (.dup, 1) := by decide +kernel
theorem dX6_add_33 : decode cX6_add 33 = .ok (.getfield 15, 3) := by decide +kernel
theorem dX6_add_36 : decode cX6_add 36 = .ok (.iconst 1, 1) := by decide +kernel
theorem dX6_add_37 : decode cX6_add 37 = .ok (.iadd, 1) := by decide +kernel
theorem dX6_add_38 : decode cX6_add 38 = .ok (.putfield 15, 3) := by decide +kernel
theorem dX6_add_41 : decode cX6_add 41 = .ok (.return_, 1) := by decide +kernel
theorem dX6_addFour_0 : decode cX6_addFour 0 = .ok (.aload_n 0, 1) := by decide +kernel
theorem dX6_addFour_1 : decode cX6_addFour 1 = .ok (.iload_n 1, 1) := by decide +kernel
theorem dX6_addFour_2 : decode cX6_addFour 2 = .ok (.bipush 24, 2) := by decide +kernel
theorem dX6_addFour_4 : decode cX6_addFour 4 = .ok (.iushr, 1) := by decide +kernel
theorem dX6_addFour_5 : decode cX6_addFour 5 = .ok (.invokevirtual 19, 3) := by decide +kernel
theorem dX6_addFour_8 : decode cX6_addFour 8 = .ok (.aload_n 0, 1) := by decide +kernel
theorem dX6_addFour_9 : decode cX6_addFour 9 = .ok (.iload_n 1, 1) := by decide +kernel
theorem dX6_addFour_10 : decode cX6_addFour 10 = .ok (.bipush 16, 2) := by decide +kernel
theorem dX6_addFour_12 : decode cX6_addFour 12 = .ok (.iushr, 1) := by decide +kernel
theorem dX6_addFour_13 : decode cX6_addFour 13 = .ok (.invokevirtual 19, 3) := by decide +kernel
theorem dX6_addFour_16 : decode cX6_addFour 16 = .ok (.aload_n 0, 1) := by decide +kernel
theorem dX6_addFour_17 : decode cX6_addFour 17 = .ok (.iload_n 1, 1) := by decide +kernel
theorem dX6_addFour_18 : decode cX6_addFour 18 = .ok (.bipush 8, 2) := by decide +kernel
theorem dX6_addFour_20 : decode cX6_addFour 20 = .ok (.iushr, 1) := by decide +kernel
theorem dX6_addFour_21 : decode cX6_addFour 21 = .ok (.invokevirtual 19, 3) := by decide +kernel
theorem dX6_addFour_24 : decode cX6_addFour 24 = .ok (.aload_n 0, 1) := by decide +kernel
theorem dX6_addFour_25 : decode cX6_addFour 25 = .ok (.iload_n 1, 1) := by decide +kernel
theorem dX6_addFour_26 : decode cX6_addFour 26 = .ok (.invokevirtual 19, 3) := by decide +kernel
theorem dX6_addFour_29 : decode cX6_addFour 29 = .ok (.return_, 1) := by decide +kernel
theorem dX6_addDigit_0 : decode cX6_addDigit 0 = .ok (.aload_n 0, 1) := by decide +kernel
theorem dX6_addDigit_1 : decode cX6_addDigit 1 = .ok (.iload_n 1, 1) := by decide +kernel
theorem dX6_addDigit_2 : decode cX6_addDigit 2 = .ok (.bipush 10, 2) := by decide +kernel
theorem dX6_addDigit_4 : decode cX6_addDigit 4 = .ok (.if_icmp .ge 10, 3) := by decide +kernel
theorem dX6_addDigit_7 : decode cX6_addDigit 7 = .ok (.bipush 48, 2) := by decide +kernel
theorem dX6_addDigit_9 : decode cX6_addDigit 9 = .ok (.iload_n 1, 1) := by decide +kernel
theorem dX6_addDigit_10 : decode cX6_addDigit 10 = .ok (.iadd, 1) := by decide +kernel
theorem dX6_addDigit_11 : decode cX6_addDigit 11 = .ok (.goto 10, 3) := by decide +kernel
theorem dX6_addDigit_14 : decode cX6_addDigit 14 = .ok (.bipush 65, 2) := by decide +kernel
theorem dX6_addDigit_16 : decode cX6_addDigit 16 = .ok (.iload_n 1, 1) := by decide +kernel
theorem dX6_addDigit_17 : decode cX6_addDigit 17 = .ok (.iadd, 1) := by decide +kernel
theorem dX6_addDigit_18 : decode cX6_addDigit 18 = .ok (.bipush 10, 2) := by decide +kernel
theorem dX6_addDigit_20 : decode cX6_addDigit 20 = .ok (.isub, 1) := by decide +kernel
theorem dX6_addDigit_21 : decode cX6_addDigit 21 = .ok (.invokevirtual 19, 3) := by decide +kernel
theorem dX6_addDigit_24 : decode cX6_addDigit 24 = .ok (.return_, 1) := by decide +kernel
theorem dX6_digitAt_0 : decode cX6_digitAt 0 = .ok (.aload_n 0, 1) := by decide +kernel
theorem dX6_digitAt_1 : decode cX6_digitAt 1 = .ok (.iload_n 1, 1) := by decide +kernel
theorem dX6_digitAt_2 : decode cX6_digitAt 2 = .ok (.invokevirtual 23, 3) := by decide +kernel
theorem dX6_digitAt_5 : decode cX6_digitAt 5 = .ok (.istore_n 2, 1) := by decide +kernel
theorem dX6_digitAt_6 : decode cX6_digitAt 6 = .ok (.iload_n 2, 1) := by decide +kernel
theorem dX6_digitAt_7 : decode cX6_digitAt 7 = .ok (.bipush 48, 2) := by decide +kernel
theorem dX6_digitAt_9 : decode cX6_digitAt 9 = .ok (.if_icmp .lt 14, 3) := by decide +kernel
theorem dX6_digitAt_12 : decode cX6_digitAt 12 = .ok (.iload_n 2, 1) := by decide +kernel
theorem dX6_digitAt_13 : decode cX6_digitAt 13 = .ok (.bipush 57, 2) := by decide +kernel
theorem dX6_digitAt_15 : decode cX6_digitAt 15 = .ok (.if_icmp .gt 8, 3) := by decide +kernel
theorem dX6_digitAt_18 : decode cX6_digitAt 18 = .ok (.iload_n 2, 1) := by decide +kernel
theorem dX6_digitAt_19 : decode cX6_digitAt 19 = .ok (.bipush 48, 2) := by decide +kernel
theorem dX6_digitAt_21 : decode cX6_digitAt 21 = .ok (.isub, 1) := by decide +kernel
theorem dX6_digitAt_22 : decode cX6_digitAt 22 = .ok (.ireturn, 1) := by decide +kernel
theorem dX6_digitAt_23 : decode cX6_digitAt 23 = .ok (.iload_n 2, 1) := by decide +kernel
theorem dX6_digitAt_24 : decode cX6_digitAt 24 = .ok (.bipush 65, 2) := by decide +kernel
theorem dX6_digitAt_26 : decode cX6_digitAt 26 = .ok (.if_icmp .lt 19, 3) := by decide +kernel
theorem dX6_digitAt_29 : decode cX6_digitAt 29 = .ok (.iload_n 2, 1) := by decide +kernel
theorem dX6_digitAt_30 : decode cX6_digitAt 30 = .ok (.bipush 70, 2) := by decide +kernel
theorem dX6_digitAt_32 : decode cX6_digitAt 32 = .ok (.if_icmp .gt 13, 3) := by decide +kernel
theorem dX6_digitAt_35 : decode cX6_digitAt 35 = .ok (.iload_n 2, 1) := by decide +kernel
theorem dX6_digitAt_36 : decode cX6_digitAt 36 = .ok (.bipush 65, 2) := by decide +kernel
theorem dX6_digitAt_38 : decode cX6_digitAt 38 = .ok (.isub, 1) := by decide +kernel
theorem dX6_digitAt_39 : decode cX6_digitAt 39 = .ok (.bipush 10, 2) := by decide +kernel
theorem dX6_digitAt_41 : decode cX6_digitAt 41 = .ok (.iadd, 1) := by decide +kernel
theorem dX6_digitAt_42 : decode cX6_digitAt 42 = .ok (.goto 4, 3) := by decide +kernel
theorem dX6_digitAt_45 : decode cX6_digitAt 45 = .ok (.iconst (-1), 1) := by decide +kernel
theorem dX6_digitAt_46 : decode cX6_digitAt 46 = .ok (.ireturn, 1) := by decide +kernel
theorem dX6_pairAt_0 : decode cX6_pairAt 0 = .ok (.aload_n 0, 1) := by decide +kernel
theorem dX6_pairAt_1 : decode cX6_pairAt 1 = .ok (.iload_n 1, 1) := by decide +kernel
theorem dX6_pairAt_2 : decode cX6_pairAt 2 = .ok (.invokevirtual 27, 3) := by decide +kernel
theorem dX6_pairAt_5 : decode cX6_pairAt 5 = .ok (.bipush 16, 2) := by decide +kernel
theorem dX6_pairAt_7 : decode cX6_pairAt 7 = .ok (.imul, 1) := by decide +kernel
theorem dX6_pairAt_8 : decode cX6_pairAt 8 = .ok (.aload_n 0, 1) := by decide +kernel
theorem dX6_pairAt_9 : decode cX6_pairAt 9 = .ok (.iload_n 1, 1) := by decide +kernel
theorem dX6_pairAt_10 : decode cX6_pairAt 10 = .ok (.iconst 1, 1) := by decide +kernel
theorem dX6_pairAt_11 : decode cX6_pairAt 11 = .ok (.iadd, 1) := by decide +kernel
theorem dX6_pairAt_12 : decode cX6_pairAt 12 = .ok (.invokevirtual 27, 3) := by decide +kernel
theorem dX6_pairAt_15 : decode cX6_pairAt 15 = .ok (.iadd, 1) := by decide +kernel
theorem dX6_pairAt_16 : decode cX6_pairAt 16 = .ok (.ireturn, 1) := by decide +kernel
theorem dX7_init_0 : decode cX7_init 0 = .ok (.aload_n 0, 1) := by decide +kernel
theorem dX7_init_1 : decode cX7_init 1 = .ok (.invokespecial 3, 3) := by decide +kernel
theorem dX7_init_4 : decode cX7_init 4 = .ok (.aload_n 0, 1) := by decide +kernel
theorem dX7_init_5 : decode cX7_init 5 = .ok (.aload_n 1, 1) := by decide +kernel
theorem dX7_init_6 : decode cX7_init 6 = .ok (.putfield 9, 3) := by decide +kernel
theorem dX7_init_9 : decode cX7_init 9 = .ok (.aload_n 0, 1) := by decide +kernel
theorem dX7_init_10 : decode cX7_init 10 = .ok (.aload_n 2, 1) := by decide +kernel
theorem dX7_init_11 : decode cX7_init 11 = .ok (.putfield 15, 3) := by decide +kernel
theorem dX7_init_14 : decode cX7_init 14 = .ok (.aload_n 0, 1) := by decide +kernel
theorem dX7_init_15 : decode cX7_init 15 = .ok (.iload_n 3, 1) := by decide +kernel
theorem dX7_init_16 : decode cX7_init 16 = .ok (.putfield 19, 3) := by decide +kernel
theorem dX7_init_19 : decode cX7_init 19 = .ok (.return_, 1) := by decide +kernel
theorem dX7_workAt_0 : decode cX7_workAt 0 = .ok (.aload_n 0, 1) := by decide +kernel
theorem dX7_workAt_1 : decode cX7_workAt 1 = .ok (.iload_n 1, 1) := by decide +kernel
theorem dX7_workAt_2 : decode cX7_workAt 2 = .ok (.putfield 23, 3) := by decide +kernel
theorem dX7_workAt_5 : decode cX7_workAt 5 = .ok (.aload_n 0, 1) := by decide +kernel
theorem dX7_workAt_6 : decode cX7_workAt 6 = .ok (.iload_n 2, 1) := by decide +kernel
theorem dX7_workAt_7 : decode cX7_workAt 7 = .ok (.putfield 26, 3) := by decide +kernel
theorem dX7_workAt_10 : decode cX7_workAt 10 = .ok (.aload_n 0, 1) := by decide +kernel
theorem dX7_workAt_11 : decode cX7_workAt 11 = .ok (.iconst 0, 1) := by decide +kernel
theorem dX7_workAt_12 : decode cX7_workAt 12 = .ok (.putfield 29, 3) := by decide +kernel
theorem dX7_workAt_15 : decode cX7_workAt 15 = .ok (.aload_n 0, 1) := by decide +kernel
theorem dX7_workAt_16 : decode cX7_workAt 16 = .ok (.iconst 0, 1) := by decide +kernel
theorem dX7_workAt_17 : decode cX7_workAt 17 = .ok (.putfield 32, 3) := by decide +kernel
theorem dX7_workAt_20 : decode cX7_workAt 20 = .ok (.aload_n 0, 1) := by decide +kernel
theorem dX7_workAt_21 : decode cX7_workAt 21 = .ok (.iconst 0, 1) := by decide +kernel
theorem dX7_workAt_22 : decode cX7_workAt 22 = .ok (.aload_n 0, 1) := by decide +kernel
theorem dX7_workAt_23 : decode cX7_workAt 23 = .ok (.getfield 15, 3) := by decide +kernel
theorem dX7_workAt_26 : decode cX7_workAt 26 = .ok (.getfield 36, 3) := by decide +kernel
theorem dX7_workAt_29 : decode cX7_workAt 29 = .ok (.iconst 0, 1) := by decide +kernel
theorem dX7_workAt_30 : decode cX7_workAt 30 = .ok (.invokevirtual 41, 3) := by decide +kernel
theorem dX7_workAt_33 : decode cX7_workAt 33 = .ok (.return_, 1) := by decide +kernel
theorem dX7_workSteps_0 : decode cX7_workSteps 0 = .ok (.iload_n 3, 1) := by decide +kernel
theorem dX7_workSteps_1 : decode cX7_workSteps 1 = .ok (.iconst 5, 1) := by decide +kernel
theorem dX7_workSteps_2 : decode cX7_workSteps 2 = .ok (.if_icmp .le 4, 3) := by decide +kernel
theorem dX7_workSteps_5 : decode cX7_workSteps 5 = .ok (.return_, 1) := by decide +kernel
theorem dX7_workSteps_6 : decode cX7_workSteps 6 = .ok (.iload_n 1, 1) := by decide +kernel
theorem dX7_workSteps_7 : decode cX7_workSteps 7 = .ok (.istore 4, 2) := by decide +kernel
theorem dX7_workSteps_9 : decode cX7_workSteps 9 = .ok (.iload 4, 2) := by decide +kernel
theorem dX7_workSteps_11 : decode cX7_workSteps 11 = .ok (.iload_n 2, 1) := by decide +kernel
theorem dX7_workSteps_12 : decode cX7_workSteps 12 = .ok (.if_icmp .ge 38, 3) := by decide +kernel
theorem dX7_workSteps_15 : decode cX7_workSteps 15 = .ok (.aload_n 0, 1) := by decide +kernel
theorem dX7_workSteps_16 : decode cX7_workSteps 16 = .ok (.getfield 19, 3) := by decide +kernel
theorem dX7_workSteps_19 : decode cX7_workSteps 19 = .ok (.ifCond .le 31, 3) := by decide +kernel
theorem dX7_workSteps_22 : decode cX7_workSteps 22 = .ok (.aload_n 0, 1) := by decide +kernel
theorem dX7_workSteps_23 : decode cX7_workSteps 23 = .ok (.iload 4, 2) := by decide +kernel
theorem dX7_workSteps_25 : decode cX7_workSteps 25 = .ok (.iload_n 3, 1) := by decide +kernel
theorem dX7_workSteps_26 : decode cX7_workSteps 26 = .ok (.invokevirtual 45, 3) := by decide +kernel
theorem dX7_workSteps_29 : decode cX7_workSteps 29 = .ok (.iload 4, 2) := by decide +kernel
theorem dX7_workSteps_31 : decode cX7_workSteps 31 = .ok (.iconst 1, 1) := by decide +kernel
theorem dX7_workSteps_32 : decode cX7_workSteps 32 = .ok (.iadd, 1) := by decide +kernel
theorem dX7_workSteps_33 : decode cX7_workSteps 33 = .ok (.aload_n 0, 1) := by decide +kernel
theorem dX7_workSteps_34 : decode cX7_workSteps 34 = .ok (.getfield 15, 3) := by decide +kernel
theorem dX7_workSteps_37 : decode cX7_workSteps 37 = .ok (.iload 4, 2) := by decide +kernel
theorem dX7_workSteps_39 : decode cX7_workSteps 39 = .ok (.invokevirtual 49, 3) := by decide +kernel
theorem dX7_workSteps_42 : decode cX7_workSteps 42 = .ok (.invokestatic 53, 3) := by decide +kernel
theorem dX7_workSteps_45 : decode cX7_workSteps 45 = .ok (.istore 4, 2) := by decide +kernel
theorem dX7_workSteps_47 : decode cX7_workSteps 47 = .ok (.goto (-38), 3) := by decide +kernel
theorem dX7_workSteps_50 : decode cX7_workSteps 50 = .ok (.return_, 1) := by decide +kernel
theorem dX7_workStep_0 : decode cX7_workStep 0 = .ok (.aload_n 0, 1) := by decide +kernel
theorem dX7_workStep_1 : decode cX7_workStep 1 = .ok (.getfield 15, 3) := by decide +kernel
theorem dX7_workStep_4 : decode cX7_workStep 4 = .ok (.iload_n 1, 1) := by decide +kernel
theorem dX7_workStep_5 : decode cX7_workStep 5 = .ok (.invokevirtual 59, 3) := by decide +kernel
theorem dX7_workStep_8 : decode cX7_workStep 8 = .ok (.tableswitch 139 0 3 #[32, 47, 62, 84], 32) := by decide +kernel
theorem dX7_workStep_40 : decode cX7_workStep 40 = .ok (.aload_n 0, 1) := by decide +kernel
theorem dX7_workStep_41 : decode cX7_workStep 41 = .ok (.aload_n 0, 1) := by decide +kernel
theorem dX7_workStep_42 : decode cX7_workStep 42 = .ok (.getfield 15, 3) := by decide +kernel
theorem dX7_workStep_45 : decode cX7_workStep 45 = .ok (.iload_n 1, 1) := by decide +kernel
theorem dX7_workStep_46 : decode cX7_workStep 46 = .ok (.invokevirtual 62, 3) := by decide +kernel
theorem dX7_workStep_49 : decode cX7_workStep 49 = .ok (.putfield 29, 3) := by decide +kernel
theorem dX7_workStep_52 : decode cX7_workStep 52 = .ok (.goto 101, 3) := by decide +kernel
theorem dX7_workStep_55 : decode cX7_workStep 55 = .ok (.aload_n 0, 1) := by decide +kernel
theorem dX7_workStep_56 : decode cX7_workStep 56 = .ok (.aload_n 0, 1) := by decide +kernel
theorem dX7_workStep_57 : decode cX7_workStep 57 = .ok (.getfield 15, 3) := by decide +kernel
theorem dX7_workStep_60 : decode cX7_workStep 60 = .ok (.iload_n 1, 1) := by decide +kernel
theorem dX7_workStep_61 : decode cX7_workStep 61 = .ok (.invokevirtual 62, 3) := by decide +kernel
theorem dX7_workStep_64 : decode cX7_workStep 64 = .ok (.invokevirtual 65, 3) := by decide +kernel
theorem dX7_workStep_67 : decode cX7_workStep 67 = .ok (.goto 86, 3) := by decide +kernel
theorem dX7_workStep_70 : decode cX7_workStep 70 = .ok (.aload_n 0, 1) := by decide +kernel
theorem dX7_workStep_71 : decode cX7_workStep 71 = .ok (.aload_n 0, 1) := by decide +kernel
theorem dX7_workStep_72 : decode cX7_workStep 72 = .ok (.getfield 9, 3) := by decide +kernel
theorem dX7_workStep_75 : decode cX7_workStep 75 = .ok (.aload_n 0, 1) := by decide +kernel
theorem dX7_workStep_76 : decode cX7_workStep 76 = .ok (.getfield 23, 3) := by decide +kernel
theorem dX7_workStep_79 : decode cX7_workStep 79 = .ok (.aload_n 0, 1) := by decide +kernel
theorem dX7_workStep_80 : decode cX7_workStep 80 = .ok (.getfield 26, 3) := by decide +kernel
theorem dX7_workStep_83 : decode cX7_workStep 83 = .ok (.invokevirtual 69, 3) := by decide +kernel
theorem dX7_workStep_86 : decode cX7_workStep 86 = .ok (.putfield 32, 3) := by decide +kernel
theorem dX7_workStep_89 : decode cX7_workStep 89 = .ok (.goto 64, 3) := by decide +kernel
theorem dX7_workStep_92 : decode cX7_workStep 92 = .ok (.iconst 0, 1) := by decide +kernel
theorem dX7_workStep_93 : decode cX7_workStep 93 = .ok (.istore_n 3, 1) := by decide +kernel
theorem dX7_workStep_94 : decode cX7_workStep 94 = .ok (.iload_n 3, 1) := by decide +kernel
theorem dX7_workStep_95 : decode cX7_workStep 95 = .ok (.aload_n 0, 1) := by decide +kernel
theorem dX7_workStep_96 : decode cX7_workStep 96 = .ok (.getfield 15, 3) := by decide +kernel
theorem dX7_workStep_99 : decode cX7_workStep 99 = .ok (.iload_n 1, 1) := by decide +kernel
theorem dX7_workStep_100 : decode cX7_workStep 100 = .ok (.invokevirtual 62, 3) := by decide +kernel
theorem dX7_workStep_103 : decode cX7_workStep 103 = .ok (.if_icmp .ge 41, 3) := by decide +kernel
theorem dX7_workStep_106 : decode cX7_workStep 106 = .ok (.aload_n 0, 1) := by decide +kernel
theorem dX7_workStep_107 : decode cX7_workStep 107 = .ok (.getfield 32, 3) := by decide +kernel
theorem dX7_workStep_110 : decode cX7_workStep 110 = .ok (.ifCond .ne 34, 3) := by decide +kernel
theorem dX7_workStep_113 : decode cX7_workStep 113 = .ok (.aload_n 0, 1) := by decide +kernel
theorem dX7_workStep_114 : decode cX7_workStep 114 = .ok (.getfield 19, 3) := by decide +kernel
theorem dX7_workStep_117 : decode cX7_workStep 117 = .ok (.ifCond .le 27, 3) := by decide +kernel
theorem dX7_workStep_120 : decode cX7_workStep 120 = .ok (.aload_n 0, 1) := by decide +kernel
theorem dX7_workStep_121 : decode cX7_workStep 121 = .ok (.iload_n 1, 1) := by decide +kernel
theorem dX7_workStep_122 : decode cX7_workStep 122 = .ok (.iconst 1, 1) := by decide +kernel
theorem dX7_workStep_123 : decode cX7_workStep 123 = .ok (.iadd, 1) := by decide +kernel
theorem dX7_workStep_124 : decode cX7_workStep 124 = .ok (.aload_n 0, 1) := by decide +kernel
theorem dX7_workStep_125 : decode cX7_workStep 125 = .ok (.getfield 15, 3) := by decide +kernel
theorem dX7_workStep_128 : decode cX7_workStep 128 = .ok (.iload_n 1, 1) := by decide +kernel
theorem dX7_workStep_129 : decode cX7_workStep 129 = .ok (.invokevirtual 49, 3) := by decide +kernel
theorem dX7_workStep_132 : decode cX7_workStep 132 = .ok (.iload_n 2, 1) := by decide +kernel
theorem dX7_workStep_133 : decode cX7_workStep 133 = .ok (.iconst 1, 1) := by decide +kernel
theorem dX7_workStep_134 : decode cX7_workStep 134 = .ok (.iadd, 1) := by decide +kernel
theorem dX7_workStep_135 : decode cX7_workStep 135 = .ok (.invokevirtual 41, 3) := by decide +kernel
theorem dX7_workStep_138 : decode cX7_workStep 138 = .ok (.iinc 3 1, 3) := by decide +kernel
theorem dX7_workStep_141 : decode cX7_workStep 141 = .ok (.goto (-47), 3) := by decide +kernel
theorem dX7_workStep_144 : decode cX7_workStep 144 = .ok (.goto 9, 3) := by decide +kernel
theorem dX7_workStep_147 : decode cX7_workStep 147 = .ok (.aload_n 0, 1) := by decide +kernel
theorem dX7_workStep_148 : decode cX7_workStep 148 = .ok (.iload_n 1, 1) := by decide +kernel
theorem dX7_workStep_149 : decode cX7_workStep 149 = .ok (.iload_n 2, 1) := by decide +kernel
theorem dX7_workStep_150 : decode cX7_workStep 150 = .ok (.invokevirtual 75, 3) := by decide +kernel
theorem dX7_workStep_153 : decode cX7_workStep 153 = .ok (.return_, 1) := by decide +kernel
theorem dX7_workBranch_0 : decode cX7_workBranch 0 = .ok (.aload_n 0, 1) := by decide +kernel
theorem dX7_workBranch_1 : decode cX7_workBranch 1 = .ok (.getfield 32, 3) := by decide +kernel
theorem dX7_workBranch_4 : decode cX7_workBranch 4 = .ok (.ifCond .eq 24, 3) := by decide +kernel
theorem dX7_workBranch_7 : decode cX7_workBranch 7 = .ok (.aload_n 0, 1) := by decide +kernel
theorem dX7_workBranch_8 : decode cX7_workBranch 8 = .ok (.iload_n 1, 1) := by decide +kernel
theorem dX7_workBranch_9 : decode cX7_workBranch 9 = .ok (.iconst 1, 1) := by decide +kernel
theorem dX7_workBranch_10 : decode cX7_workBranch 10 = .ok (.iadd, 1) := by decide +kernel
theorem dX7_workBranch_11 : decode cX7_workBranch 11 = .ok (.aload_n 0, 1) := by decide +kernel
theorem dX7_workBranch_12 : decode cX7_workBranch 12 = .ok (.getfield 15, 3) := by decide +kernel
theorem dX7_workBranch_15 : decode cX7_workBranch 15 = .ok (.iload_n 1, 1) := by decide +kernel
theorem dX7_workBranch_16 : decode cX7_workBranch 16 = .ok (.invokevirtual 78, 3) := by decide +kernel
theorem dX7_workBranch_19 : decode cX7_workBranch 19 = .ok (.iload_n 2, 1) := by decide +kernel
theorem dX7_workBranch_20 : decode cX7_workBranch 20 = .ok (.iconst 1, 1) := by decide +kernel
theorem dX7_workBranch_21 : decode cX7_workBranch 21 = .ok (.iadd, 1) := by decide +kernel
theorem dX7_workBranch_22 : decode cX7_workBranch 22 = .ok (.invokevirtual 41, 3) := by decide +kernel
theorem dX7_workBranch_25 : decode cX7_workBranch 25 = .ok (.goto 26, 3) := by decide +kernel
theorem dX7_workBranch_28 : decode cX7_workBranch 28 = .ok (.aload_n 0, 1) := by decide +kernel
theorem dX7_workBranch_29 : decode cX7_workBranch 29 = .ok (.aload_n 0, 1) := by decide +kernel
theorem dX7_workBranch_30 : decode cX7_workBranch 30 = .ok (.getfield 15, 3) := by decide +kernel
theorem dX7_workBranch_33 : decode cX7_workBranch 33 = .ok (.iload_n 1, 1) := by decide +kernel
theorem dX7_workBranch_34 : decode cX7_workBranch 34 = .ok (.invokevirtual 78, 3) := by decide +kernel
theorem dX7_workBranch_37 : decode cX7_workBranch 37 = .ok (.aload_n 0, 1) := by decide +kernel
theorem dX7_workBranch_38 : decode cX7_workBranch 38 = .ok (.getfield 15, 3) := by decide +kernel
theorem dX7_workBranch_41 : decode cX7_workBranch 41 = .ok (.iload_n 1, 1) := by decide +kernel
theorem dX7_workBranch_42 : decode cX7_workBranch 42 = .ok (.invokevirtual 49, 3) := by decide +kernel
theorem dX7_workBranch_45 : decode cX7_workBranch 45 = .ok (.iload_n 2, 1) := by decide +kernel
theorem dX7_workBranch_46 : decode cX7_workBranch 46 = .ok (.iconst 1, 1) := by decide +kernel
theorem dX7_workBranch_47 : decode cX7_workBranch 47 = .ok (.iadd, 1) := by decide +kernel
theorem dX7_workBranch_48 : decode cX7_workBranch 48 = .ok (.invokevirtual 41, 3) := by decide +kernel
theorem dX7_workBranch_51 : decode cX7_workBranch 51 = .ok (.return_, 1) := by decide +kernel
theorem dX7_givePulses_0 : decode cX7_givePulses 0 = .ok (.iconst 0, 1) := by decide +kernel
theorem dX7_givePulses_1 : decode cX7_givePulses 1 = .ok (.istore_n 2, 1) := by decide +kernel
theorem dX7_givePulses_2 : decode cX7_givePulses 2 = .ok (.iload_n 2, 1) := by decide +kernel
theorem dX7_givePulses_3 : decode cX7_givePulses 3 = .ok (.iload_n 1, 1) := by decide +kernel
theorem dX7_givePulses_4 : decode cX7_givePulses 4 = .ok (.if_icmp .ge 45, 3) := by decide +kernel
theorem dX7_givePulses_7 : decode cX7_givePulses 7 = .ok (.aload_n 0, 1) := by decide +kernel
theorem dX7_givePulses_8 : decode cX7_givePulses 8 = .ok (.getfield 19, 3) := by decide +kernel
theorem dX7_givePulses_11 : decode cX7_givePulses 11 = .ok (.ifCond .le 38, 3) := by decide +kernel
theorem dX7_givePulses_14 : decode cX7_givePulses 14 = .ok (.aload_n 0, 1) := by decide +kernel
theorem dX7_givePulses_15 : decode cX7_givePulses 15 = .ok (.getfield 9, 3) := by decide +kernel
theorem dX7_givePulses_18 : decode cX7_givePulses 18 = .ok (.aload_n 0, 1) := by decide +kernel
theorem dX7_givePulses_19 : decode cX7_givePulses 19 = .ok (.getfield 23, 3) := by decide +kernel
theorem dX7_givePulses_22 : decode cX7_givePulses 22 = .ok (.aload_n 0, 1) := by decide +kernel
theorem dX7_givePulses_23 : decode cX7_givePulses 23 = .ok (.getfield 26, 3) := by decide +kernel
theorem dX7_givePulses_26 : decode cX7_givePulses 26 = .ok (.aload_n 0, 1) := by decide +kernel
theorem dX7_givePulses_27 : decode cX7_givePulses 27 = .ok (.getfield 29, 3) := by decide +kernel
theorem dX7_givePulses_30 : decode cX7_givePulses 30 = .ok (.invokevirtual 81, 3) := by decide +kernel
theorem dX7_givePulses_33 : decode cX7_givePulses 33 = .ok (.aload_n 0, 1) := by decide +kernel
theorem dX7_givePulses_34 : decode cX7_givePulses 34 = .ok (.dup, 1) := by decide +kernel
theorem dX7_givePulses_35 : decode cX7_givePulses 35 = .ok (.getfield 19, 3) := by decide +kernel
theorem dX7_givePulses_38 : decode cX7_givePulses 38 = .ok (.iconst 1, 1) := by decide +kernel
theorem dX7_givePulses_39 : decode cX7_givePulses 39 = .ok (.isub, 1) := by decide +kernel
theorem dX7_givePulses_40 : decode cX7_givePulses 40 = .ok (.putfield 19, 3) := by decide +kernel
theorem dX7_givePulses_43 : decode cX7_givePulses 43 = .ok (.iinc 2 1, 3) := by decide +kernel
theorem dX7_givePulses_46 : decode cX7_givePulses 46 = .ok (.goto (-44), 3) := by decide +kernel
theorem dX7_givePulses_49 : decode cX7_givePulses 49 = .ok (.return_, 1) := by decide +kernel
theorem dX8_init_0 : decode cX8_init 0 = .ok (.aload_n 0, 1) := by decide +kernel
theorem dX8_init_1 : decode cX8_init 1 = .ok (.invokespecial 1, 3) := by decide +kernel
theorem dX8_init_4 : decode cX8_init 4 = .ok (.aload_n 0, 1) := by decide +kernel
theorem dX8_init_5 : decode cX8_init 5 = .ok (.new 7, 3) := by decide +kernel
theorem dX8_init_8 : decode cX8_init 8 = .ok (.dup, 1) := by decide +kernel
theorem dX8_init_9 : decode cX8_init 9 = .ok (.invokespecial 9, 3) := by decide +kernel
theorem dX8_init_12 : decode cX8_init 12 = .ok (.putfield 10, 3) := by decide +kernel
theorem dX8_init_15 : decode cX8_init 15 = .ok (.aload_n 0, 1) := by decide +kernel
theorem dX8_init_16 : decode cX8_init 16 = .ok (.sipush 256, 3) := by decide +kernel
theorem dX8_init_19 : decode cX8_init 19 = .ok (.newarray .int, 2) := by decide +kernel
theorem dX8_init_21 : decode cX8_init 21 = .ok (.putfield 16, 3) := by decide +kernel
theorem dX8_init_24 : decode cX8_init 24 = .ok (.aload_n 0, 1) := by decide +kernel
theorem dX8_init_25 : decode cX8_init 25 = .ok (.new 20, 3) := by decide +kernel
theorem dX8_init_28 : decode cX8_init 28 = .ok (.dup, 1) := by decide +kernel
theorem dX8_init_29 : decode cX8_init 29 = .ok (.invokespecial 22, 3) := by decide +kernel
theorem dX8_init_32 : decode cX8_init 32 = .ok (.putfield 23, 3) := by decide +kernel
theorem dX8_init_35 : decode cX8_init 35 = .ok (.aload_n 0, 1) := by decide +kernel
theorem dX8_init_36 : decode cX8_init 36 = .ok (.new 27, 3) := by decide +kernel
theorem dX8_init_39 : decode cX8_init 39 = .ok (.dup, 1) := by decide +kernel
theorem dX8_init_40 : decode cX8_init 40 = .ok (.aload_n 0, 1) := by decide +kernel
theorem dX8_init_41 : decode cX8_init 41 = .ok (.getfield 10, 3) := by decide +kernel
theorem dX8_init_44 : decode cX8_init 44 = .ok (.aload_n 0, 1) := by decide +kernel
theorem dX8_init_45 : decode cX8_init 45 = .ok (.getfield 23, 3) := by decide +kernel
theorem dX8_init_48 : decode cX8_init 48 = .ok (.invokespecial 29, 3) := by decide +kernel
theorem dX8_init_51 : decode cX8_init 51 = .ok (.putfield 32, 3) := by decide +kernel
theorem dX8_init_54 : decode cX8_init 54 = .ok (.aload_n 0, 1) := by decide +kernel
theorem dX8_init_55 : decode cX8_init 55 = .ok (.new 36, 3) := by decide +kernel
theorem dX8_init_58 : decode cX8_init 58 = .ok (.dup, 1) := by decide +kernel
theorem dX8_init_59 : decode cX8_init 59 = .ok (.aload_n 0, 1) := by decide +kernel
theorem dX8_init_60 : decode cX8_init 60 = .ok (.getfield 10, 3) := by decide +kernel
theorem dX8_init_63 : decode cX8_init 63 = .ok (.invokespecial 38, 3) := by decide +kernel
theorem dX8_init_66 : decode cX8_init 66 = .ok (.putfield 41, 3) := by decide +kernel
theorem dX8_init_69 : decode cX8_init 69 = .ok (.aload_n 0, 1) := by decide +kernel
theorem dX8_init_70 : decode cX8_init 70 = .ok (.new 45, 3) := by decide +kernel
theorem dX8_init_73 : decode cX8_init 73 = .ok (.dup, 1) := by decide +kernel
theorem dX8_init_74 : decode cX8_init 74 = .ok (.aload_n 0, 1) := by decide +kernel
theorem dX8_init_75 : decode cX8_init 75 = .ok (.getfield 10, 3) := by decide +kernel
theorem dX8_init_78 : decode cX8_init 78 = .ok (.aload_n 0, 1) := by decide +kernel
theorem dX8_init_79 : decode cX8_init 79 = .ok (.getfield 23, 3) := by decide +kernel
theorem dX8_init_82 : decode cX8_init 82 = .ok (.invokespecial 47, 3) := by decide +kernel
theorem dX8_init_85 : decode cX8_init 85 = .ok (.putfield 48, 3) := by decide +kernel
theorem dX8_init_88 : decode cX8_init 88 = .ok (.aload_n 0, 1) := by decide +kernel
theorem dX8_init_89 : decode cX8_init 89 = .ok (.iconst 4, 1) := by decide +kernel
theorem dX8_init_90 : decode cX8_init 90 = .ok (.anewarray 52, 3) := by decide +kernel
theorem dX8_init_93 : decode cX8_init 93 = .ok (.putfield 54, 3) := by decide +kernel
theorem dX8_init_96 : decode cX8_init 96 = .ok (.aload_n 0, 1) := by decide +kernel
theorem dX8_init_97 : decode cX8_init 97 = .ok (.iconst 4, 1) := by decide +kernel
theorem dX8_init_98 : decode cX8_init 98 = .ok (.anewarray 58, 3) := by decide +kernel
theorem dX8_init_101 : decode cX8_init 101 = .ok (.putfield 60, 3) := by decide +kernel
theorem dX8_init_104 : decode cX8_init 104 = .ok (.aload_n 0, 1) := by decide +kernel
theorem dX8_init_105 : decode cX8_init 105 = .ok (.new 58, 3) := by decide +kernel
theorem dX8_init_108 : decode cX8_init 108 = .ok (.dup, 1) := by decide +kernel
theorem dX8_init_109 : decode cX8_init 109 = .ok (.invokespecial 64, 3) := by decide +kernel
theorem dX8_init_112 : decode cX8_init 112 = .ok (.putfield 65, 3) := by decide +kernel
theorem dX8_init_115 : decode cX8_init 115 = .ok (.aload_n 0, 1) := by decide +kernel
theorem dX8_init_116 : decode cX8_init 116 = .ok (.getfield 16, 3) := by decide +kernel
theorem dX8_init_119 : decode cX8_init 119 = .ok (.sipush 255, 3) := by decide +kernel
theorem dX8_init_122 : decode cX8_init 122 = .ok (.invokestatic 69, 3) := by decide +kernel
theorem dX8_init_125 : decode cX8_init 125 = .ok (.iconst 0, 1) := by decide +kernel
theorem dX8_init_126 : decode cX8_init 126 = .ok (.istore_n 1, 1) := by decide +kernel
theorem dX8_init_127 : decode cX8_init 127 = .ok (.iload_n 1, 1) := by decide +kernel
theorem dX8_init_128 : decode cX8_init 128 = .ok (.iconst 4, 1) := by decide +kernel
theorem dX8_init_129 : decode cX8_init 129 = .ok (.if_icmp .ge 22, 3) := by decide +kernel
theorem dX8_init_132 : decode cX8_init 132 = .ok (.aload_n 0, 1) := by decide +kernel
theorem dX8_init_133 : decode cX8_init 133 = .ok (.getfield 60, 3) := by decide +kernel
theorem dX8_init_136 : decode cX8_init 136 = .ok (.iload_n 1, 1) := by decide +kernel
theorem dX8_init_137 : decode cX8_init 137 = .ok (.new 58, 3) := by decide +kernel
theorem dX8_init_140 : decode cX8_init 140 = .ok (.dup, 1) := by decide +kernel
theorem dX8_init_141 : decode cX8_init 141 = .ok (.invokespecial 64, 3) := by decide +kernel
theorem dX8_init_144 : decode cX8_init 144 = .ok (.aastore, 1) := by decide +kernel
theorem dX8_init_145 : decode cX8_init 145 = .ok (.iinc 1 1, 3) := by decide +kernel
theorem dX8_init_148 : decode cX8_init 148 = .ok (.goto (-21), 3) := by decide +kernel
theorem dX8_init_151 : decode cX8_init 151 = .ok (.return_, 1) := by decide +kernel
theorem dX8_feed_0 : decode cX8_feed 0 = .ok (.aload_n 0, 1) := by decide +kernel
theorem dX8_feed_1 : decode cX8_feed 1 = .ok (.getfield 10, 3) := by decide +kernel
theorem dX8_feed_4 : decode cX8_feed 4 = .ok (.invokevirtual 75, 3) := by decide +kernel
theorem dX8_feed_7 : decode cX8_feed 7 = .ok (.bipush 20, 2) := by decide +kernel
theorem dX8_feed_9 : decode cX8_feed 9 = .ok (.iadd, 1) := by decide +kernel
theorem dX8_feed_10 : decode cX8_feed 10 = .ok (.sipush 400, 3) := by decide +kernel
theorem dX8_feed_13 : decode cX8_feed 13 = .ok (.if_icmp .le 5, 3) := by decide +kernel
theorem dX8_feed_16 : decode cX8_feed 16 = .ok (.iconst (-1), 1) := by decide +kernel
theorem dX8_feed_17 : decode cX8_feed 17 = .ok (.ireturn, 1) := by decide +kernel
theorem dX8_feed_18 : decode cX8_feed 18 = .ok (.aload_n 0, 1) := by decide +kernel
theorem dX8_feed_19 : decode cX8_feed 19 = .ok (.getfield 10, 3) := by decide +kernel
theorem dX8_feed_22 : decode cX8_feed 22 = .ok (.iload_n 1, 1) := by decide +kernel
theorem dX8_feed_23 : decode cX8_feed 23 = .ok (.invokevirtual 79, 3) := by decide +kernel
theorem dX8_feed_26 : decode cX8_feed 26 = .ok (.aload_n 0, 1) := by decide +kernel
theorem dX8_feed_27 : decode cX8_feed 27 = .ok (.getfield 10, 3) := by decide +kernel
theorem dX8_feed_30 : decode cX8_feed 30 = .ok (.iload_n 2, 1) := by decide +kernel
theorem dX8_feed_31 : decode cX8_feed 31 = .ok (.invokevirtual 79, 3) := by decide +kernel
theorem dX8_feed_34 : decode cX8_feed 34 = .ok (.aload_n 0, 1) := by decide +kernel
theorem dX8_feed_35 : decode cX8_feed 35 = .ok (.getfield 10, 3) := by decide +kernel
theorem dX8_feed_38 : decode cX8_feed 38 = .ok (.iload_n 3, 1) := by decide +kernel
theorem dX8_feed_39 : decode cX8_feed 39 = .ok (.invokevirtual 79, 3) := by decide +kernel
theorem dX8_feed_42 : decode cX8_feed 42 = .ok (.aload_n 0, 1) := by decide +kernel
theorem dX8_feed_43 : decode cX8_feed 43 = .ok (.getfield 10, 3) := by decide +kernel
theorem dX8_feed_46 : decode cX8_feed 46 = .ok (.iload 4, 2) := by decide +kernel
theorem dX8_feed_48 : decode cX8_feed 48 = .ok (.invokevirtual 79, 3) := by decide +kernel
theorem dX8_feed_51 : decode cX8_feed 51 = .ok (.aload_n 0, 1) := by decide +kernel
theorem dX8_feed_52 : decode cX8_feed 52 = .ok (.getfield 10, 3) := by decide +kernel
theorem dX8_feed_55 : decode cX8_feed 55 = .ok (.iload 5, 2) := by decide +kernel
theorem dX8_feed_57 : decode cX8_feed 57 = .ok (.invokevirtual 79, 3) := by decide +kernel
theorem dX8_feed_60 : decode cX8_feed 60 = .ok (.aload_n 0, 1) := by decide +kernel
theorem dX8_feed_61 : decode cX8_feed 61 = .ok (.getfield 10, 3) := by decide +kernel
theorem dX8_feed_64 : decode cX8_feed 64 = .ok (.invokevirtual 75, 3) := by decide +kernel
theorem dX8_feed_67 : decode cX8_feed 67 = .ok (.ireturn, 1) := by decide +kernel
theorem dX8_end_0 : decode cX8_end 0 = .ok (.aload_n 0, 1) := by decide +kernel
theorem dX8_end_1 : decode cX8_end 1 = .ok (.getfield 10, 3) := by decide +kernel
theorem dX8_end_4 : decode cX8_end 4 = .ok (.iload_n 1, 1) := by decide +kernel
theorem dX8_end_5 : decode cX8_end 5 = .ok (.invokevirtual 83, 3) := by decide +kernel
theorem dX8_end_8 : decode cX8_end 8 = .ok (.ifCond .eq 7, 3) := by decide +kernel
theorem dX8_end_11 : decode cX8_end 11 = .ok (.iload_n 1, 1) := by decide +kernel
theorem dX8_end_12 : decode cX8_end 12 = .ok (.goto 4, 3) := by decide +kernel
theorem dX8_end_15 : decode cX8_end 15 = .ok (.iconst (-1), 1) := by decide +kernel
theorem dX8_end_16 : decode cX8_end 16 = .ok (.ireturn, 1) := by decide +kernel
theorem dX8_file_0 : decode cX8_file 0 = .ok (.iload_n 1, 1) := by decide +kernel
theorem dX8_file_1 : decode cX8_file 1 = .ok (.iconst 0, 1) := by decide +kernel
theorem dX8_file_2 : decode cX8_file 2 = .ok (.iconst 2, 1) := by decide +kernel
theorem dX8_file_3 : decode cX8_file 3 = .ok (.invokestatic 87, 3) := by decide +kernel
theorem dX8_file_6 : decode cX8_file 6 = .ok (.ifCond .ne 5, 3) := by decide +kernel
theorem dX8_file_9 : decode cX8_file 9 = .ok (.iconst (-1), 1) := by decide +kernel
theorem dX8_file_10 : decode cX8_file 10 = .ok (.ireturn, 1) := by decide +kernel
theorem dX8_file_11 : decode cX8_file 11 = .ok (.aload_n 0, 1) := by decide +kernel
theorem dX8_file_12 : decode cX8_file 12 = .ok (.getfield 32, 3) := by decide +kernel
theorem dX8_file_15 : decode cX8_file 15 = .ok (.aload_n 0, 1) := by decide +kernel
theorem dX8_file_16 : decode cX8_file 16 = .ok (.getfield 16, 3) := by decide +kernel
theorem dX8_file_19 : decode cX8_file 19 = .ok (.iload_n 1, 1) := by decide +kernel
theorem dX8_file_20 : decode cX8_file 20 = .ok (.invokevirtual 91, 3) := by decide +kernel
theorem dX8_file_23 : decode cX8_file 23 = .ok (.istore_n 2, 1) := by decide +kernel
theorem dX8_file_24 : decode cX8_file 24 = .ok (.aload_n 0, 1) := by decide +kernel
theorem dX8_file_25 : decode cX8_file 25 = .ok (.getfield 10, 3) := by decide +kernel
theorem dX8_file_28 : decode cX8_file 28 = .ok (.iconst 0, 1) := by decide +kernel
theorem dX8_file_29 : decode cX8_file 29 = .ok (.invokevirtual 83, 3) := by decide +kernel
theorem dX8_file_32 : decode cX8_file 32 = .ok (.pop, 1) := by decide +kernel
theorem dX8_file_33 : decode cX8_file 33 = .ok (.iload_n 2, 1) := by decide +kernel
theorem dX8_file_34 : decode cX8_file 34 = .ok (.iconst (-1), 1) := by decide +kernel
theorem dX8_file_35 : decode cX8_file 35 = .ok (.if_icmp .eq 22, 3) := by decide +kernel
theorem dX8_file_38 : decode cX8_file 38 = .ok (.aload_n 0, 1) := by decide +kernel
theorem dX8_file_39 : decode cX8_file 39 = .ok (.ldc2_w 97, 3) := by decide +kernel
theorem dX8_file_42 : decode cX8_file 42 = .ok (.aload_n 0, 1) := by decide +kernel
theorem dX8_file_43 : decode cX8_file 43 = .ok (.getfield 99, 3) := by decide +kernel
theorem dX8_file_46 : decode cX8_file 46 = .ok (.i2l, 1) := by decide +kernel
theorem dX8_file_47 : decode cX8_file 47 = .ok (.iload_n 2, 1) := by decide +kernel
theorem dX8_file_48 : decode cX8_file 48 = .ok (.i2l, 1) := by decide +kernel
theorem dX8_file_49 : decode cX8_file 49 = .ok (.ladd, 1) := by decide +kernel
theorem dX8_file_50 : decode cX8_file 50 = .ok (.invokestatic 103, 3) := by decide +kernel
theorem dX8_file_53 : decode cX8_file 53 = .ok (.l2i, 1) := by decide +kernel
theorem dX8_file_54 : decode cX8_file 54 = .ok (.putfield 99, 3) := by decide +kernel
theorem dX8_file_57 : decode cX8_file 57 = .ok (.iload_n 2, 1) := by decide +kernel
theorem dX8_file_58 : decode cX8_file 58 = .ok (.ireturn, 1) := by decide +kernel
theorem dX8_fault_0 : decode cX8_fault 0 = .ok (.iload_n 1, 1) := by decide +kernel
theorem dX8_fault_1 : decode cX8_fault 1 = .ok (.ifCond .ne 11, 3) := by decide +kernel
theorem dX8_fault_4 : decode cX8_fault 4 = .ok (.aload_n 0, 1) := by decide +kernel
theorem dX8_fault_5 : decode cX8_fault 5 = .ok (.getfield 23, 3) := by decide +kernel
theorem dX8_fault_8 : decode cX8_fault 8 = .ok (.getfield 109, 3) := by decide +kernel
theorem dX8_fault_11 : decode cX8_fault 11 = .ok (.ireturn, 1) := by decide +kernel
theorem dX8_fault_12 : decode cX8_fault 12 = .ok (.iload_n 1, 1) := by decide +kernel
theorem dX8_fault_13 : decode cX8_fault 13 = .ok (.iconst 1, 1) := by decide +kernel
theorem dX8_fault_14 : decode cX8_fault 14 = .ok (.if_icmp .ne 13, 3) := by decide +kernel
theorem dX8_fault_17 : decode cX8_fault 17 = .ok (.aload_n 0, 1) := by decide +kernel
theorem dX8_fault_18 : decode cX8_fault 18 = .ok (.getfield 23, 3) := by decide +kernel
theorem dX8_fault_21 : decode cX8_fault 21 = .ok (.getfield 112, 3) := by decide +kernel
theorem dX8_fault_24 : decode cX8_fault 24 = .ok (.goto 4, 3) := by decide +kernel
theorem dX8_fault_27 : decode cX8_fault 27 = .ok (.iconst (-1), 1) := by decide +kernel
theorem dX8_fault_28 : decode cX8_fault 28 = .ok (.ireturn, 1) := by decide +kernel
theorem dX8_write_0 : decode cX8_write 0 = .ok (.iload_n 1, 1) := by decide +kernel
theorem dX8_write_1 : decode cX8_write 1 = .ok (.iconst 1, 1) := by decide +kernel
theorem dX8_write_2 : decode cX8_write 2 = .ok (.iconst 2, 1) := by decide +kernel
theorem dX8_write_3 : decode cX8_write 3 = .ok (.invokestatic 87, 3) := by decide +kernel
theorem dX8_write_6 : decode cX8_write 6 = .ok (.ifCond .eq 23, 3) := by decide +kernel
theorem dX8_write_9 : decode cX8_write 9 = .ok (.iload_n 2, 1) := by decide +kernel
theorem dX8_write_10 : decode cX8_write 10 = .ok (.iconst 0, 1) := by decide +kernel
theorem dX8_write_11 : decode cX8_write 11 = .ok (.iload_n 3, 1) := by decide +kernel
theorem dX8_write_12 : decode cX8_write 12 = .ok (.invokestatic 87, 3) := by decide +kernel
theorem dX8_write_15 : decode cX8_write 15 = .ok (.ifCond .eq 14, 3) := by decide +kernel
theorem dX8_write_18 : decode cX8_write 18 = .ok (.iload_n 3, 1) := by decide +kernel
theorem dX8_write_19 : decode cX8_write 19 = .ok (.iload_n 2, 1) := by decide +kernel
theorem dX8_write_20 : decode cX8_write 20 = .ok (.sipush 255, 3) := by decide +kernel
theorem dX8_write_23 : decode cX8_write 23 = .ok (.invokestatic 87, 3) := by decide +kernel
theorem dX8_write_26 : decode cX8_write 26 = .ok (.ifCond .ne 5, 3) := by decide +kernel
theorem dX8_write_29 : decode cX8_write 29 = .ok (.iconst (-1), 1) := by decide +kernel
theorem dX8_write_30 : decode cX8_write 30 = .ok (.ireturn, 1) := by decide +kernel
theorem dX8_write_31 : decode cX8_write 31 = .ok (.aload_n 0, 1) := by decide +kernel
theorem dX8_write_32 : decode cX8_write 32 = .ok (.getfield 41, 3) := by decide +kernel
theorem dX8_write_35 : decode cX8_write 35 = .ok (.iload_n 1, 1) := by decide +kernel
theorem dX8_write_36 : decode cX8_write 36 = .ok (.iload_n 3, 1) := by decide +kernel
theorem dX8_write_37 : decode cX8_write 37 = .ok (.iload_n 2, 1) := by decide +kernel
theorem dX8_write_38 : decode cX8_write 38 = .ok (.isub, 1) := by decide +kernel
theorem dX8_write_39 : decode cX8_write 39 = .ok (.iconst 1, 1) := by decide +kernel
theorem dX8_write_40 : decode cX8_write 40 = .ok (.iadd, 1) := by decide +kernel
theorem dX8_write_41 : decode cX8_write 41 = .ok (.invokevirtual 115, 3) := by decide +kernel
theorem dX8_write_44 : decode cX8_write 44 = .ok (.sipush 400, 3) := by decide +kernel
theorem dX8_write_47 : decode cX8_write 47 = .ok (.if_icmp .le 5, 3) := by decide +kernel
theorem dX8_write_50 : decode cX8_write 50 = .ok (.iconst (-1), 1) := by decide +kernel
theorem dX8_write_51 : decode cX8_write 51 = .ok (.ireturn, 1) := by decide +kernel
theorem dX8_write_52 : decode cX8_write 52 = .ok (.aload_n 0, 1) := by decide +kernel
theorem dX8_write_53 : decode cX8_write 53 = .ok (.getfield 41, 3) := by decide +kernel
theorem dX8_write_56 : decode cX8_write 56 = .ok (.aload_n 0, 1) := by decide +kernel
theorem dX8_write_57 : decode cX8_write 57 = .ok (.getfield 16, 3) := by decide +kernel
theorem dX8_write_60 : decode cX8_write 60 = .ok (.iload_n 1, 1) := by decide +kernel
theorem dX8_write_61 : decode cX8_write 61 = .ok (.iload_n 2, 1) := by decide +kernel
theorem dX8_write_62 : decode cX8_write 62 = .ok (.iload_n 3, 1) := by decide +kernel
theorem dX8_write_63 : decode cX8_write 63 = .ok (.invokevirtual 119, 3) := by decide +kernel
theorem dX8_write_66 : decode cX8_write 66 = .ok (.aload_n 0, 1) := by decide +kernel
theorem dX8_write_67 : decode cX8_write 67 = .ok (.getfield 10, 3) := by decide +kernel
theorem dX8_write_70 : decode cX8_write 70 = .ok (.invokevirtual 75, 3) := by decide +kernel
theorem dX8_write_73 : decode cX8_write 73 = .ok (.ireturn, 1) := by decide +kernel
theorem dX8_tape_0 : decode cX8_tape 0 = .ok (.aload_n 0, 1) := by decide +kernel
theorem dX8_tape_1 : decode cX8_tape 1 = .ok (.getfield 10, 3) := by decide +kernel
theorem dX8_tape_4 : decode cX8_tape 4 = .ok (.iload_n 1, 1) := by decide +kernel
theorem dX8_tape_5 : decode cX8_tape 5 = .ok (.invokevirtual 123, 3) := by decide +kernel
theorem dX8_tape_8 : decode cX8_tape 8 = .ok (.ireturn, 1) := by decide +kernel
theorem dX8_image_0 : decode cX8_image 0 = .ok (.iload_n 1, 1) := by decide +kernel
theorem dX8_image_1 : decode cX8_image 1 = .ok (.iconst 0, 1) := by decide +kernel
theorem dX8_image_2 : decode cX8_image 2 = .ok (.sipush 255, 3) := by decide +kernel
theorem dX8_image_5 : decode cX8_image 5 = .ok (.invokestatic 87, 3) := by decide +kernel
theorem dX8_image_8 : decode cX8_image 8 = .ok (.ifCond .eq 12, 3) := by decide +kernel
theorem dX8_image_11 : decode cX8_image 11 = .ok (.aload_n 0, 1) := by decide +kernel
theorem dX8_image_12 : decode cX8_image 12 = .ok (.getfield 16, 3) := by decide +kernel
theorem dX8_image_15 : decode cX8_image 15 = .ok (.iload_n 1, 1) := by decide +kernel
theorem dX8_image_16 : decode cX8_image 16 = .ok (.iaload, 1) := by decide +kernel
theorem dX8_image_17 : decode cX8_image 17 = .ok (.goto 4, 3) := by decide +kernel
theorem dX8_image_20 : decode cX8_image 20 = .ok (.iconst (-1), 1) := by decide +kernel
theorem dX8_image_21 : decode cX8_image 21 = .ok (.ireturn, 1) := by decide +kernel
theorem dX8_fill_0 : decode cX8_fill 0 = .ok (.iload_n 1, 1) := by decide +kernel
theorem dX8_fill_1 : decode cX8_fill 1 = .ok (.iconst 0, 1) := by decide +kernel
theorem dX8_fill_2 : decode cX8_fill 2 = .ok (.sipush 255, 3) := by decide +kernel
theorem dX8_fill_5 : decode cX8_fill 5 = .ok (.invokestatic 87, 3) := by decide +kernel
theorem dX8_fill_8 : decode cX8_fill 8 = .ok (.ifCond .ne 5, 3) := by decide +kernel
theorem dX8_fill_11 : decode cX8_fill 11 = .ok (.iconst 0, 1) := by decide +kernel
theorem dX8_fill_12 : decode cX8_fill 12 = .ok (.ireturn, 1) := by decide +kernel
theorem dX8_fill_13 : decode cX8_fill 13 = .ok (.aload_n 0, 1) := by decide +kernel
theorem dX8_fill_14 : decode cX8_fill 14 = .ok (.getfield 16, 3) := by decide +kernel
theorem dX8_fill_17 : decode cX8_fill 17 = .ok (.iload_n 1, 1) := by decide +kernel
theorem dX8_fill_18 : decode cX8_fill 18 = .ok (.invokestatic 69, 3) := by decide +kernel
theorem dX8_fill_21 : decode cX8_fill 21 = .ok (.iconst 1, 1) := by decide +kernel
theorem dX8_fill_22 : decode cX8_fill 22 = .ok (.ireturn, 1) := by decide +kernel
theorem dX8_chip_0 : decode cX8_chip 0 = .ok (.iload_n 1, 1) := by decide +kernel
theorem dX8_chip_1 : decode cX8_chip 1 = .ok (.invokestatic 127, 3) := by decide +kernel
theorem dX8_chip_4 : decode cX8_chip 4 = .ok (.ifCond .eq 74, 3) := by decide +kernel
theorem dX8_chip_7 : decode cX8_chip 7 = .ok (.iload_n 2, 1) := by decide +kernel
theorem dX8_chip_8 : decode cX8_chip 8 = .ok (.iconst 0, 1) := by decide +kernel
theorem dX8_chip_9 : decode cX8_chip 9 = .ok (.sipush 255, 3) := by decide +kernel
theorem dX8_chip_12 : decode cX8_chip 12 = .ok (.invokestatic 87, 3) := by decide +kernel
theorem dX8_chip_15 : decode cX8_chip 15 = .ok (.ifCond .eq 63, 3) := by decide +kernel
theorem dX8_chip_18 : decode cX8_chip 18 = .ok (.iload 4, 2) := by decide +kernel
theorem dX8_chip_20 : decode cX8_chip 20 = .ok (.iconst 1, 1) := by decide +kernel
theorem dX8_chip_21 : decode cX8_chip 21 = .ok (.bipush 30, 2) := by decide +kernel
theorem dX8_chip_23 : decode cX8_chip 23 = .ok (.invokestatic 87, 3) := by decide +kernel
theorem dX8_chip_26 : decode cX8_chip 26 = .ok (.ifCond .eq 52, 3) := by decide +kernel
theorem dX8_chip_29 : decode cX8_chip 29 = .ok (.iload 5, 2) := by decide +kernel
theorem dX8_chip_31 : decode cX8_chip 31 = .ok (.iload 4, 2) := by decide +kernel
theorem dX8_chip_33 : decode cX8_chip 33 = .ok (.bipush 30, 2) := by decide +kernel
theorem dX8_chip_35 : decode cX8_chip 35 = .ok (.invokestatic 87, 3) := by decide +kernel
theorem dX8_chip_38 : decode cX8_chip 38 = .ok (.ifCond .eq 40, 3) := by decide +kernel
theorem dX8_chip_41 : decode cX8_chip 41 = .ok (.iload 6, 2) := by decide +kernel
theorem dX8_chip_43 : decode cX8_chip 43 = .ok (.iconst 1, 1) := by decide +kernel
theorem dX8_chip_44 : decode cX8_chip 44 = .ok (.sipush 200, 3) := by decide +kernel
theorem dX8_chip_47 : decode cX8_chip 47 = .ok (.invokestatic 87, 3) := by decide +kernel
theorem dX8_chip_50 : decode cX8_chip 50 = .ok (.ifCond .eq 28, 3) := by decide +kernel
theorem dX8_chip_53 : decode cX8_chip 53 = .ok (.iload 7, 2) := by decide +kernel
theorem dX8_chip_55 : decode cX8_chip 55 = .ok (.iconst 0, 1) := by decide +kernel
theorem dX8_chip_56 : decode cX8_chip 56 = .ok (.iconst 5, 1) := by decide +kernel
theorem dX8_chip_57 : decode cX8_chip 57 = .ok (.invokestatic 87, 3) := by decide +kernel
theorem dX8_chip_60 : decode cX8_chip 60 = .ok (.ifCond .eq 18, 3) := by decide +kernel
theorem dX8_chip_63 : decode cX8_chip 63 = .ok (.iload 8, 2) := by decide +kernel
theorem dX8_chip_65 : decode cX8_chip 65 = .ok (.iconst 0, 1) := by decide +kernel
theorem dX8_chip_66 : decode cX8_chip 66 = .ok (.bipush 50, 2) := by decide +kernel
theorem dX8_chip_68 : decode cX8_chip 68 = .ok (.invokestatic 87, 3) := by decide +kernel
theorem dX8_chip_71 : decode cX8_chip 71 = .ok (.ifCond .eq 7, 3) := by decide +kernel
theorem dX8_chip_74 : decode cX8_chip 74 = .ok (.iconst 1, 1) := by decide +kernel
theorem dX8_chip_75 : decode cX8_chip 75 = .ok (.goto 4, 3) := by decide +kernel
theorem dX8_chip_78 : decode cX8_chip 78 = .ok (.iconst 0, 1) := by decide +kernel
theorem dX8_chip_79 : decode cX8_chip 79 = .ok (.istore 9, 2) := by decide +kernel
theorem dX8_chip_81 : decode cX8_chip 81 = .ok (.iload 9, 2) := by decide +kernel
theorem dX8_chip_83 : decode cX8_chip 83 = .ok (.ifCond .eq 11, 3) := by decide +kernel
theorem dX8_chip_86 : decode cX8_chip 86 = .ok (.aload_n 0, 1) := by decide +kernel
theorem dX8_chip_87 : decode cX8_chip 87 = .ok (.getfield 130, 3) := by decide +kernel
theorem dX8_chip_90 : decode cX8_chip 90 = .ok (.iconst 4, 1) := by decide +kernel
theorem dX8_chip_91 : decode cX8_chip 91 = .ok (.if_icmp .lt 5, 3) := by decide +kernel
theorem dX8_chip_94 : decode cX8_chip 94 = .ok (.iconst (-1), 1) := by decide +kernel
theorem dX8_chip_95 : decode cX8_chip 95 = .ok (.ireturn, 1) := by decide +kernel
theorem dX8_chip_96 : decode cX8_chip 96 = .ok (.new 52, 3) := by decide +kernel
theorem dX8_chip_99 : decode cX8_chip 99 = .ok (.dup, 1) := by decide +kernel
theorem dX8_chip_100 : decode cX8_chip 100 = .ok (.iload_n 1, 1) := by decide +kernel
theorem dX8_chip_101 : decode cX8_chip 101 = .ok (.iload_n 2, 1) := by decide +kernel
theorem dX8_chip_102 : decode cX8_chip 102 = .ok (.iload_n 3, 1) := by decide +kernel
theorem dX8_chip_103 : decode cX8_chip 103 = .ok (.invokespecial 133, 3) := by decide +kernel
theorem dX8_chip_106 : decode cX8_chip 106 = .ok (.astore 10, 2) := by decide +kernel
theorem dX8_chip_108 : decode cX8_chip 108 = .ok (.aload 10, 2) := by decide +kernel
theorem dX8_chip_110 : decode cX8_chip 110 = .ok (.iload 4, 2) := by decide +kernel
theorem dX8_chip_112 : decode cX8_chip 112 = .ok (.iload 5, 2) := by decide +kernel
theorem dX8_chip_114 : decode cX8_chip 114 = .ok (.iload 6, 2) := by decide +kernel
theorem dX8_chip_116 : decode cX8_chip 116 = .ok (.invokevirtual 136, 3) := by decide +kernel
theorem dX8_chip_119 : decode cX8_chip 119 = .ok (.aload 10, 2) := by decide +kernel
theorem dX8_chip_121 : decode cX8_chip 121 = .ok (.iload 7, 2) := by decide +kernel
theorem dX8_chip_123 : decode cX8_chip 123 = .ok (.iload 8, 2) := by decide +kernel
theorem dX8_chip_125 : decode cX8_chip 125 = .ok (.invokevirtual 140, 3) := by decide +kernel
theorem dX8_chip_128 : decode cX8_chip 128 = .ok (.aload_n 0, 1) := by decide +kernel
theorem dX8_chip_129 : decode cX8_chip 129 = .ok (.getfield 54, 3) := by decide +kernel
theorem dX8_chip_132 : decode cX8_chip 132 = .ok (.aload_n 0, 1) := by decide +kernel
theorem dX8_chip_133 : decode cX8_chip 133 = .ok (.getfield 130, 3) := by decide +kernel
theorem dX8_chip_136 : decode cX8_chip 136 = .ok (.aload 10, 2) := by decide +kernel
theorem dX8_chip_138 : decode cX8_chip 138 = .ok (.aastore, 1) := by decide +kernel
theorem dX8_chip_139 : decode cX8_chip 139 = .ok (.aload_n 0, 1) := by decide +kernel
theorem dX8_chip_140 : decode cX8_chip 140 = .ok (.dup, 1) := by decide +kernel
theorem dX8_chip_141 : decode cX8_chip 141 = .ok (.getfield 130, 3) := by decide +kernel
theorem dX8_chip_144 : decode cX8_chip 144 = .ok (.iconst 1, 1) := by decide +kernel
theorem dX8_chip_145 : decode cX8_chip 145 = .ok (.iadd, 1) := by decide +kernel
theorem dX8_chip_146 : decode cX8_chip 146 = .ok (.putfield 130, 3) := by decide +kernel
theorem dX8_chip_149 : decode cX8_chip 149 = .ok (.aload_n 0, 1) := by decide +kernel
theorem dX8_chip_150 : decode cX8_chip 150 = .ok (.getfield 130, 3) := by decide +kernel
theorem dX8_chip_153 : decode cX8_chip 153 = .ok (.iconst 1, 1) := by decide +kernel
theorem dX8_chip_154 : decode cX8_chip 154 = .ok (.isub, 1) := by decide +kernel
theorem dX8_chip_155 : decode cX8_chip 155 = .ok (.ireturn, 1) := by decide +kernel
theorem dX8_need_0 : decode cX8_need 0 = .ok (.aload_n 0, 1) := by decide +kernel
theorem dX8_need_1 : decode cX8_need 1 = .ok (.iload_n 1, 1) := by decide +kernel
theorem dX8_need_2 : decode cX8_need 2 = .ok (.invokevirtual 144, 3) := by decide +kernel
theorem dX8_need_5 : decode cX8_need 5 = .ok (.astore 4, 2) := by decide +kernel
theorem dX8_need_7 : decode cX8_need 7 = .ok (.aload 4, 2) := by decide +kernel
theorem dX8_need_9 : decode cX8_need 9 = .ok (.ifnull 27, 3) := by decide +kernel
theorem dX8_need_12 : decode cX8_need 12 = .ok (.iload_n 3, 1) := by decide +kernel
theorem dX8_need_13 : decode cX8_need 13 = .ok (.iconst 1, 1) := by decide +kernel
theorem dX8_need_14 : decode cX8_need 14 = .ok (.bipush 60, 2) := by decide +kernel
theorem dX8_need_16 : decode cX8_need 16 = .ok (.invokestatic 87, 3) := by decide +kernel
theorem dX8_need_19 : decode cX8_need 19 = .ok (.ifCond .eq 17, 3) := by decide +kernel
theorem dX8_need_22 : decode cX8_need 22 = .ok (.aload 4, 2) := by decide +kernel
theorem dX8_need_24 : decode cX8_need 24 = .ok (.iload_n 2, 1) := by decide +kernel
theorem dX8_need_25 : decode cX8_need 25 = .ok (.iload_n 3, 1) := by decide +kernel
theorem dX8_need_26 : decode cX8_need 26 = .ok (.invokevirtual 148, 3) := by decide +kernel
theorem dX8_need_29 : decode cX8_need 29 = .ok (.ifCond .eq 7, 3) := by decide +kernel
theorem dX8_need_32 : decode cX8_need 32 = .ok (.iconst 1, 1) := by decide +kernel
theorem dX8_need_33 : decode cX8_need 33 = .ok (.goto 4, 3) := by decide +kernel
theorem dX8_need_36 : decode cX8_need 36 = .ok (.iconst 0, 1) := by decide +kernel
theorem dX8_need_37 : decode cX8_need 37 = .ok (.ireturn, 1) := by decide +kernel
theorem dX8_bad_0 : decode cX8_bad 0 = .ok (.aload_n 0, 1) := by decide +kernel
theorem dX8_bad_1 : decode cX8_bad 1 = .ok (.iload_n 1, 1) := by decide +kernel
theorem dX8_bad_2 : decode cX8_bad 2 = .ok (.invokevirtual 144, 3) := by decide +kernel
theorem dX8_bad_5 : decode cX8_bad 5 = .ok (.astore 4, 2) := by decide +kernel
theorem dX8_bad_7 : decode cX8_bad 7 = .ok (.aload 4, 2) := by decide +kernel
theorem dX8_bad_9 : decode cX8_bad 9 = .ok (.ifnull 17, 3) := by decide +kernel
theorem dX8_bad_12 : decode cX8_bad 12 = .ok (.aload 4, 2) := by decide +kernel
theorem dX8_bad_14 : decode cX8_bad 14 = .ok (.iload_n 2, 1) := by decide +kernel
theorem dX8_bad_15 : decode cX8_bad 15 = .ok (.iload_n 3, 1) := by decide +kernel
theorem dX8_bad_16 : decode cX8_bad 16 = .ok (.invokevirtual 152, 3) := by decide +kernel
theorem dX8_bad_19 : decode cX8_bad 19 = .ok (.ifCond .eq 7, 3) := by decide +kernel
theorem dX8_bad_22 : decode cX8_bad 22 = .ok (.iconst 1, 1) := by decide +kernel
theorem dX8_bad_23 : decode cX8_bad 23 = .ok (.goto 4, 3) := by decide +kernel
theorem dX8_bad_26 : decode cX8_bad 26 = .ok (.iconst 0, 1) := by decide +kernel
theorem dX8_bad_27 : decode cX8_bad 27 = .ok (.ireturn, 1) := by decide +kernel
theorem dX8_contact_0 : decode cX8_contact 0 = .ok (.aload_n 0, 1) := by decide +kernel
theorem dX8_contact_1 : decode cX8_contact 1 = .ok (.iload_n 1, 1) := by decide +kernel
theorem dX8_contact_2 : decode cX8_contact 2 = .ok (.invokevirtual 144, 3) := by decide +kernel
theorem dX8_contact_5 : decode cX8_contact 5 = .ok (.astore 4, 2) := by decide +kernel
theorem dX8_contact_7 : decode cX8_contact 7 = .ok (.aload 4, 2) := by decide +kernel
theorem dX8_contact_9 : decode cX8_contact 9 = .ok (.ifnull 17, 3) := by decide +kernel
theorem dX8_contact_12 : decode cX8_contact 12 = .ok (.aload 4, 2) := by decide +kernel
theorem dX8_contact_14 : decode cX8_contact 14 = .ok (.iload_n 2, 1) := by decide +kernel
theorem dX8_contact_15 : decode cX8_contact 15 = .ok (.iload_n 3, 1) := by decide +kernel
theorem dX8_contact_16 : decode cX8_contact 16 = .ok (.invokevirtual 156, 3) := by decide +kernel
theorem dX8_contact_19 : decode cX8_contact 19 = .ok (.ifCond .eq 7, 3) := by decide +kernel
theorem dX8_contact_22 : decode cX8_contact 22 = .ok (.iconst 1, 1) := by decide +kernel
theorem dX8_contact_23 : decode cX8_contact 23 = .ok (.goto 4, 3) := by decide +kernel
theorem dX8_contact_26 : decode cX8_contact 26 = .ok (.iconst 0, 1) := by decide +kernel
theorem dX8_contact_27 : decode cX8_contact 27 = .ok (.ireturn, 1) := by decide +kernel
theorem dX8_erase_0 : decode cX8_erase 0 = .ok (.aload_n 0, 1) := by decide +kernel
theorem dX8_erase_1 : decode cX8_erase 1 = .ok (.iload_n 1, 1) := by decide +kernel
theorem dX8_erase_2 : decode cX8_erase 2 = .ok (.invokevirtual 144, 3) := by decide +kernel
theorem dX8_erase_5 : decode cX8_erase 5 = .ok (.astore_n 2, 1) := by decide +kernel
theorem dX8_erase_6 : decode cX8_erase 6 = .ok (.aload_n 2, 1) := by decide +kernel
theorem dX8_erase_7 : decode cX8_erase 7 = .ok (.ifnull 10, 3) := by decide +kernel
theorem dX8_erase_10 : decode cX8_erase 10 = .ok (.aload_n 2, 1) := by decide +kernel
theorem dX8_erase_11 : decode cX8_erase 11 = .ok (.getfield 159, 3) := by decide +kernel
theorem dX8_erase_14 : decode cX8_erase 14 = .ok (.ifCond .ne 5, 3) := by decide +kernel
theorem dX8_erase_17 : decode cX8_erase 17 = .ok (.iconst (-1), 1) := by decide +kernel
theorem dX8_erase_18 : decode cX8_erase 18 = .ok (.ireturn, 1) := by decide +kernel
theorem dX8_erase_19 : decode cX8_erase 19 = .ok (.aload_n 2, 1) := by decide +kernel
theorem dX8_erase_20 : decode cX8_erase 20 = .ok (.invokevirtual 163, 3) := by decide +kernel
theorem dX8_erase_23 : decode cX8_erase 23 = .ok (.aload_n 2, 1) := by decide +kernel
theorem dX8_erase_24 : decode cX8_erase 24 = .ok (.getfield 166, 3) := by decide +kernel
theorem dX8_erase_27 : decode cX8_erase 27 = .ok (.ireturn, 1) := by decide +kernel
theorem dX8_chipOf_0 : decode cX8_chipOf 0 = .ok (.aload_n 0, 1) := by decide +kernel
theorem dX8_chipOf_1 : decode cX8_chipOf 1 = .ok (.iload_n 1, 1) := by decide +kernel
theorem dX8_chipOf_2 : decode cX8_chipOf 2 = .ok (.invokevirtual 144, 3) := by decide +kernel
theorem dX8_chipOf_5 : decode cX8_chipOf 5 = .ok (.astore_n 3, 1) := by decide +kernel
theorem dX8_chipOf_6 : decode cX8_chipOf 6 = .ok (.aload_n 3, 1) := by decide +kernel
theorem dX8_chipOf_7 : decode cX8_chipOf 7 = .ok (.ifnull 7, 3) := by decide +kernel
theorem dX8_chipOf_10 : decode cX8_chipOf 10 = .ok (.iload_n 2, 1) := by decide +kernel
theorem dX8_chipOf_11 : decode cX8_chipOf 11 = .ok (.ifCond .ge 5, 3) := by decide +kernel
theorem dX8_chipOf_14 : decode cX8_chipOf 14 = .ok (.iconst (-1), 1) := by decide +kernel
theorem dX8_chipOf_15 : decode cX8_chipOf 15 = .ok (.ireturn, 1) := by decide +kernel
theorem dX8_chipOf_16 : decode cX8_chipOf 16 = .ok (.iload_n 2, 1) := by decide +kernel
theorem dX8_chipOf_17 : decode cX8_chipOf 17 = .ok (.bipush 100, 2) := by decide +kernel
theorem dX8_chipOf_19 : decode cX8_chipOf 19 = .ok (.if_icmp .ge 11, 3) := by decide +kernel
theorem dX8_chipOf_22 : decode cX8_chipOf 22 = .ok (.aload_n 3, 1) := by decide +kernel
theorem dX8_chipOf_23 : decode cX8_chipOf 23 = .ok (.iload_n 2, 1) := by decide +kernel
theorem dX8_chipOf_24 : decode cX8_chipOf 24 = .ok (.invokevirtual 169, 3) := by decide +kernel
theorem dX8_chipOf_27 : decode cX8_chipOf 27 = .ok (.goto 15, 3) := by decide +kernel
theorem dX8_chipOf_30 : decode cX8_chipOf 30 = .ok (.aload_n 3, 1) := by decide +kernel
theorem dX8_chipOf_31 : decode cX8_chipOf 31 = .ok (.iload_n 2, 1) := by decide +kernel
theorem dX8_chipOf_32 : decode cX8_chipOf 32 = .ok (.bipush 100, 2) := by decide +kernel
theorem dX8_chipOf_34 : decode cX8_chipOf 34 = .ok (.idiv, 1) := by decide +kernel
theorem dX8_chipOf_35 : decode cX8_chipOf 35 = .ok (.iload_n 2, 1) := by decide +kernel
theorem dX8_chipOf_36 : decode cX8_chipOf 36 = .ok (.bipush 100, 2) := by decide +kernel
theorem dX8_chipOf_38 : decode cX8_chipOf 38 = .ok (.irem, 1) := by decide +kernel
theorem dX8_chipOf_39 : decode cX8_chipOf 39 = .ok (.invokevirtual 172, 3) := by decide +kernel
theorem dX8_chipOf_42 : decode cX8_chipOf 42 = .ok (.ireturn, 1) := by decide +kernel
theorem dX8_recipe_0 : decode cX8_recipe 0 = .ok (.iload_n 1, 1) := by decide +kernel
theorem dX8_recipe_1 : decode cX8_recipe 1 = .ok (.iconst 0, 1) := by decide +kernel
theorem dX8_recipe_2 : decode cX8_recipe 2 = .ok (.iconst 3, 1) := by decide +kernel
theorem dX8_recipe_3 : decode cX8_recipe 3 = .ok (.invokestatic 87, 3) := by decide +kernel
theorem dX8_recipe_6 : decode cX8_recipe 6 = .ok (.ifCond .ne 5, 3) := by decide +kernel
theorem dX8_recipe_9 : decode cX8_recipe 9 = .ok (.iconst (-1), 1) := by decide +kernel
theorem dX8_recipe_10 : decode cX8_recipe 10 = .ok (.ireturn, 1) := by decide +kernel
theorem dX8_recipe_11 : decode cX8_recipe 11 = .ok (.aload_n 0, 1) := by decide +kernel
theorem dX8_recipe_12 : decode cX8_recipe 12 = .ok (.getfield 48, 3) := by decide +kernel
theorem dX8_recipe_15 : decode cX8_recipe 15 = .ok (.aload_n 0, 1) := by decide +kernel
theorem dX8_recipe_16 : decode cX8_recipe 16 = .ok (.getfield 65, 3) := by decide +kernel
theorem dX8_recipe_19 : decode cX8_recipe 19 = .ok (.invokevirtual 175, 3) := by decide +kernel
theorem dX8_recipe_22 : decode cX8_recipe 22 = .ok (.istore_n 2, 1) := by decide +kernel
theorem dX8_recipe_23 : decode cX8_recipe 23 = .ok (.aload_n 0, 1) := by decide +kernel
theorem dX8_recipe_24 : decode cX8_recipe 24 = .ok (.getfield 10, 3) := by decide +kernel
theorem dX8_recipe_27 : decode cX8_recipe 27 = .ok (.iconst 0, 1) := by decide +kernel
theorem dX8_recipe_28 : decode cX8_recipe 28 = .ok (.invokevirtual 83, 3) := by decide +kernel
theorem dX8_recipe_31 : decode cX8_recipe 31 = .ok (.pop, 1) := by decide +kernel
theorem dX8_recipe_32 : decode cX8_recipe 32 = .ok (.iload_n 2, 1) := by decide +kernel
theorem dX8_recipe_33 : decode cX8_recipe 33 = .ok (.ifCond .ne 5, 3) := by decide +kernel
theorem dX8_recipe_36 : decode cX8_recipe 36 = .ok (.iconst (-1), 1) := by decide +kernel
theorem dX8_recipe_37 : decode cX8_recipe 37 = .ok (.ireturn, 1) := by decide +kernel
theorem dX8_recipe_38 : decode cX8_recipe 38 = .ok (.aload_n 0, 1) := by decide +kernel
theorem dX8_recipe_39 : decode cX8_recipe 39 = .ok (.getfield 60, 3) := by decide +kernel
theorem dX8_recipe_42 : decode cX8_recipe 42 = .ok (.iload_n 1, 1) := by decide +kernel
theorem dX8_recipe_43 : decode cX8_recipe 43 = .ok (.aaload, 1) := by decide +kernel
theorem dX8_recipe_44 : decode cX8_recipe 44 = .ok (.astore_n 3, 1) := by decide +kernel
theorem dX8_recipe_45 : decode cX8_recipe 45 = .ok (.aload_n 0, 1) := by decide +kernel
theorem dX8_recipe_46 : decode cX8_recipe 46 = .ok (.getfield 60, 3) := by decide +kernel
theorem dX8_recipe_49 : decode cX8_recipe 49 = .ok (.iload_n 1, 1) := by decide +kernel
theorem dX8_recipe_50 : decode cX8_recipe 50 = .ok (.aload_n 0, 1) := by decide +kernel
theorem dX8_recipe_51 : decode cX8_recipe 51 = .ok (.getfield 65, 3) := by decide +kernel
theorem dX8_recipe_54 : decode cX8_recipe 54 = .ok (.aastore, 1) := by decide +kernel
theorem dX8_recipe_55 : decode cX8_recipe 55 = .ok (.aload_n 0, 1) := by decide +kernel
theorem dX8_recipe_56 : decode cX8_recipe 56 = .ok (.aload_n 3, 1) := by decide +kernel
theorem dX8_recipe_57 : decode cX8_recipe 57 = .ok (.putfield 65, 3) := by decide +kernel
theorem dX8_recipe_60 : decode cX8_recipe 60 = .ok (.aload_n 0, 1) := by decide +kernel
theorem dX8_recipe_61 : decode cX8_recipe 61 = .ok (.getfield 60, 3) := by decide +kernel
theorem dX8_recipe_64 : decode cX8_recipe 64 = .ok (.iload_n 1, 1) := by decide +kernel
theorem dX8_recipe_65 : decode cX8_recipe 65 = .ok (.aaload, 1) := by decide +kernel
theorem dX8_recipe_66 : decode cX8_recipe 66 = .ok (.getfield 178, 3) := by decide +kernel
theorem dX8_recipe_69 : decode cX8_recipe 69 = .ok (.ireturn, 1) := by decide +kernel
theorem dX8_walk_0 : decode cX8_walk 0 = .ok (.aload_n 0, 1) := by decide +kernel
theorem dX8_walk_1 : decode cX8_walk 1 = .ok (.iload_n 1, 1) := by decide +kernel
theorem dX8_walk_2 : decode cX8_walk 2 = .ok (.invokevirtual 181, 3) := by decide +kernel
theorem dX8_walk_5 : decode cX8_walk 5 = .ok (.astore_n 3, 1) := by decide +kernel
theorem dX8_walk_6 : decode cX8_walk 6 = .ok (.aload_n 3, 1) := by decide +kernel
theorem dX8_walk_7 : decode cX8_walk 7 = .ok (.ifnonnull 5, 3) := by decide +kernel
theorem dX8_walk_10 : decode cX8_walk 10 = .ok (.iconst (-1), 1) := by decide +kernel
theorem dX8_walk_11 : decode cX8_walk 11 = .ok (.ireturn, 1) := by decide +kernel
theorem dX8_walk_12 : decode cX8_walk 12 = .ok (.iload_n 2, 1) := by decide +kernel
theorem dX8_walk_13 : decode cX8_walk 13 = .ok (.tableswitch 51 0 3 #[31, 36, 41, 46], 31) := by decide +kernel
theorem dX8_walk_44 : decode cX8_walk 44 = .ok (.aload_n 3, 1) := by decide +kernel
theorem dX8_walk_45 : decode cX8_walk 45 = .ok (.getfield 178, 3) := by decide +kernel
theorem dX8_walk_48 : decode cX8_walk 48 = .ok (.ireturn, 1) := by decide +kernel
theorem dX8_walk_49 : decode cX8_walk 49 = .ok (.aload_n 3, 1) := by decide +kernel
theorem dX8_walk_50 : decode cX8_walk 50 = .ok (.getfield 185, 3) := by decide +kernel
theorem dX8_walk_53 : decode cX8_walk 53 = .ok (.ireturn, 1) := by decide +kernel
theorem dX8_walk_54 : decode cX8_walk 54 = .ok (.aload_n 3, 1) := by decide +kernel
theorem dX8_walk_55 : decode cX8_walk 55 = .ok (.getfield 188, 3) := by decide +kernel
theorem dX8_walk_58 : decode cX8_walk 58 = .ok (.ireturn, 1) := by decide +kernel
theorem dX8_walk_59 : decode cX8_walk 59 = .ok (.aload_n 3, 1) := by decide +kernel
theorem dX8_walk_60 : decode cX8_walk 60 = .ok (.getfield 191, 3) := by decide +kernel
theorem dX8_walk_63 : decode cX8_walk 63 = .ok (.ireturn, 1) := by decide +kernel
theorem dX8_walk_64 : decode cX8_walk 64 = .ok (.iconst (-1), 1) := by decide +kernel
theorem dX8_walk_65 : decode cX8_walk 65 = .ok (.ireturn, 1) := by decide +kernel
theorem dX8_why_0 : decode cX8_why 0 = .ok (.aload_n 0, 1) := by decide +kernel
theorem dX8_why_1 : decode cX8_why 1 = .ok (.iload_n 1, 1) := by decide +kernel
theorem dX8_why_2 : decode cX8_why 2 = .ok (.invokevirtual 144, 3) := by decide +kernel
theorem dX8_why_5 : decode cX8_why 5 = .ok (.astore 6, 2) := by decide +kernel
theorem dX8_why_7 : decode cX8_why 7 = .ok (.aload_n 0, 1) := by decide +kernel
theorem dX8_why_8 : decode cX8_why 8 = .ok (.iload_n 2, 1) := by decide +kernel
theorem dX8_why_9 : decode cX8_why 9 = .ok (.invokevirtual 181, 3) := by decide +kernel
theorem dX8_why_12 : decode cX8_why 12 = .ok (.astore 7, 2) := by decide +kernel
theorem dX8_why_14 : decode cX8_why 14 = .ok (.aload 6, 2) := by decide +kernel
theorem dX8_why_16 : decode cX8_why 16 = .ok (.ifnull 29, 3) := by decide +kernel
theorem dX8_why_19 : decode cX8_why 19 = .ok (.aload 7, 2) := by decide +kernel
theorem dX8_why_21 : decode cX8_why 21 = .ok (.ifnull 24, 3) := by decide +kernel
theorem dX8_why_24 : decode cX8_why 24 = .ok (.iload_n 3, 1) := by decide +kernel
theorem dX8_why_25 : decode cX8_why 25 = .ok (.iconst 0, 1) := by decide +kernel
theorem dX8_why_26 : decode cX8_why 26 = .ok (.sipush 255, 3) := by decide +kernel
theorem dX8_why_29 : decode cX8_why 29 = .ok (.invokestatic 87, 3) := by decide +kernel
theorem dX8_why_32 : decode cX8_why 32 = .ok (.ifCond .eq 13, 3) := by decide +kernel
theorem dX8_why_35 : decode cX8_why 35 = .ok (.iload 4, 2) := by decide +kernel
theorem dX8_why_37 : decode cX8_why 37 = .ok (.iload 5, 2) := by decide +kernel
theorem dX8_why_39 : decode cX8_why 39 = .ok (.invokestatic 194, 3) := by decide +kernel
theorem dX8_why_42 : decode cX8_why 42 = .ok (.ifCond .ne 5, 3) := by decide +kernel
theorem dX8_why_45 : decode cX8_why 45 = .ok (.iconst (-1), 1) := by decide +kernel
theorem dX8_why_46 : decode cX8_why 46 = .ok (.ireturn, 1) := by decide +kernel
theorem dX8_why_47 : decode cX8_why 47 = .ok (.aload_n 0, 1) := by decide +kernel
theorem dX8_why_48 : decode cX8_why 48 = .ok (.aload 6, 2) := by decide +kernel
theorem dX8_why_50 : decode cX8_why 50 = .ok (.aload 7, 2) := by decide +kernel
theorem dX8_why_52 : decode cX8_why 52 = .ok (.iload_n 3, 1) := by decide +kernel
theorem dX8_why_53 : decode cX8_why 53 = .ok (.iload 4, 2) := by decide +kernel
theorem dX8_why_55 : decode cX8_why 55 = .ok (.iload 5, 2) := by decide +kernel
theorem dX8_why_57 : decode cX8_why 57 = .ok (.invokevirtual 197, 3) := by decide +kernel
theorem dX8_why_60 : decode cX8_why 60 = .ok (.ireturn, 1) := by decide +kernel
theorem dX8_burn_0 : decode cX8_burn 0 = .ok (.aload_n 0, 1) := by decide +kernel
theorem dX8_burn_1 : decode cX8_burn 1 = .ok (.iload_n 1, 1) := by decide +kernel
theorem dX8_burn_2 : decode cX8_burn 2 = .ok (.invokevirtual 144, 3) := by decide +kernel
theorem dX8_burn_5 : decode cX8_burn 5 = .ok (.astore 7, 2) := by decide +kernel
theorem dX8_burn_7 : decode cX8_burn 7 = .ok (.aload_n 0, 1) := by decide +kernel
theorem dX8_burn_8 : decode cX8_burn 8 = .ok (.iload_n 2, 1) := by decide +kernel
theorem dX8_burn_9 : decode cX8_burn 9 = .ok (.invokevirtual 181, 3) := by decide +kernel
theorem dX8_burn_12 : decode cX8_burn 12 = .ok (.astore 8, 2) := by decide +kernel
theorem dX8_burn_14 : decode cX8_burn 14 = .ok (.aload 7, 2) := by decide +kernel
theorem dX8_burn_16 : decode cX8_burn 16 = .ok (.ifnull 29, 3) := by decide +kernel
theorem dX8_burn_19 : decode cX8_burn 19 = .ok (.aload 8, 2) := by decide +kernel
theorem dX8_burn_21 : decode cX8_burn 21 = .ok (.ifnull 24, 3) := by decide +kernel
theorem dX8_burn_24 : decode cX8_burn 24 = .ok (.iload_n 3, 1) := by decide +kernel
theorem dX8_burn_25 : decode cX8_burn 25 = .ok (.iconst 0, 1) := by decide +kernel
theorem dX8_burn_26 : decode cX8_burn 26 = .ok (.sipush 255, 3) := by decide +kernel
theorem dX8_burn_29 : decode cX8_burn 29 = .ok (.invokestatic 87, 3) := by decide +kernel
theorem dX8_burn_32 : decode cX8_burn 32 = .ok (.ifCond .eq 13, 3) := by decide +kernel
theorem dX8_burn_35 : decode cX8_burn 35 = .ok (.iload 4, 2) := by decide +kernel
theorem dX8_burn_37 : decode cX8_burn 37 = .ok (.iload 5, 2) := by decide +kernel
theorem dX8_burn_39 : decode cX8_burn 39 = .ok (.invokestatic 194, 3) := by decide +kernel
theorem dX8_burn_42 : decode cX8_burn 42 = .ok (.ifCond .ne 5, 3) := by decide +kernel
theorem dX8_burn_45 : decode cX8_burn 45 = .ok (.iconst (-1), 1) := by decide +kernel
theorem dX8_burn_46 : decode cX8_burn 46 = .ok (.ireturn, 1) := by decide +kernel
theorem dX8_burn_47 : decode cX8_burn 47 = .ok (.iload 6, 2) := by decide +kernel
theorem dX8_burn_49 : decode cX8_burn 49 = .ok (.iconst 0, 1) := by decide +kernel
theorem dX8_burn_50 : decode cX8_burn 50 = .ok (.ldc 201, 2) := by decide +kernel
theorem dX8_burn_52 : decode cX8_burn 52 = .ok (.invokestatic 87, 3) := by decide +kernel
theorem dX8_burn_55 : decode cX8_burn 55 = .ok (.ifCond .eq 19, 3) := by decide +kernel
theorem dX8_burn_58 : decode cX8_burn 58 = .ok (.aload_n 0, 1) := by decide +kernel
theorem dX8_burn_59 : decode cX8_burn 59 = .ok (.aload 7, 2) := by decide +kernel
theorem dX8_burn_61 : decode cX8_burn 61 = .ok (.aload 8, 2) := by decide +kernel
theorem dX8_burn_63 : decode cX8_burn 63 = .ok (.iload_n 3, 1) := by decide +kernel
theorem dX8_burn_64 : decode cX8_burn 64 = .ok (.iload 4, 2) := by decide +kernel
theorem dX8_burn_66 : decode cX8_burn 66 = .ok (.iload 5, 2) := by decide +kernel
theorem dX8_burn_68 : decode cX8_burn 68 = .ok (.invokevirtual 197, 3) := by decide +kernel
theorem dX8_burn_71 : decode cX8_burn 71 = .ok (.ifCond .eq 5, 3) := by decide +kernel
theorem dX8_burn_74 : decode cX8_burn 74 = .ok (.iconst (-1), 1) := by decide +kernel
theorem dX8_burn_75 : decode cX8_burn 75 = .ok (.ireturn, 1) := by decide +kernel
theorem dX8_burn_76 : decode cX8_burn 76 = .ok (.new 202, 3) := by decide +kernel
theorem dX8_burn_79 : decode cX8_burn 79 = .ok (.dup, 1) := by decide +kernel
theorem dX8_burn_80 : decode cX8_burn 80 = .ok (.aload 7, 2) := by decide +kernel
theorem dX8_burn_82 : decode cX8_burn 82 = .ok (.aload 8, 2) := by decide +kernel
theorem dX8_burn_84 : decode cX8_burn 84 = .ok (.iload 6, 2) := by decide +kernel
theorem dX8_burn_86 : decode cX8_burn 86 = .ok (.invokespecial 204, 3) := by decide +kernel
theorem dX8_burn_89 : decode cX8_burn 89 = .ok (.astore 9, 2) := by decide +kernel
theorem dX8_burn_91 : decode cX8_burn 91 = .ok (.aload 7, 2) := by decide +kernel
theorem dX8_burn_93 : decode cX8_burn 93 = .ok (.iload 4, 2) := by decide +kernel
theorem dX8_burn_95 : decode cX8_burn 95 = .ok (.iload 5, 2) := by decide +kernel
theorem dX8_burn_97 : decode cX8_burn 97 = .ok (.invokestatic 207, 3) := by decide +kernel
theorem dX8_burn_100 : decode cX8_burn 100 = .ok (.istore 10, 2) := by decide +kernel
theorem dX8_burn_102 : decode cX8_burn 102 = .ok (.iconst 0, 1) := by decide +kernel
theorem dX8_burn_103 : decode cX8_burn 103 = .ok (.istore 11, 2) := by decide +kernel
theorem dX8_burn_105 : decode cX8_burn 105 = .ok (.iload 11, 2) := by decide +kernel
theorem dX8_burn_107 : decode cX8_burn 107 = .ok (.iload 10, 2) := by decide +kernel
theorem dX8_burn_109 : decode cX8_burn 109 = .ok (.if_icmp .ge 61, 3) := by decide +kernel
theorem dX8_burn_112 : decode cX8_burn 112 = .ok (.aload 9, 2) := by decide +kernel
theorem dX8_burn_114 : decode cX8_burn 114 = .ok (.getfield 211, 3) := by decide +kernel
theorem dX8_burn_117 : decode cX8_burn 117 = .ok (.ifCond .le 53, 3) := by decide +kernel
theorem dX8_burn_120 : decode cX8_burn 120 = .ok (.aload 7, 2) := by decide +kernel
theorem dX8_burn_122 : decode cX8_burn 122 = .ok (.iload 11, 2) := by decide +kernel
theorem dX8_burn_124 : decode cX8_burn 124 = .ok (.invokevirtual 214, 3) := by decide +kernel
theorem dX8_burn_127 : decode cX8_burn 127 = .ok (.istore 12, 2) := by decide +kernel
theorem dX8_burn_129 : decode cX8_burn 129 = .ok (.aload_n 0, 1) := by decide +kernel
theorem dX8_burn_130 : decode cX8_burn 130 = .ok (.iload 4, 2) := by decide +kernel
theorem dX8_burn_132 : decode cX8_burn 132 = .ok (.iload 5, 2) := by decide +kernel
theorem dX8_burn_134 : decode cX8_burn 134 = .ok (.iload 11, 2) := by decide +kernel
theorem dX8_burn_136 : decode cX8_burn 136 = .ok (.imul, 1) := by decide +kernel
theorem dX8_burn_137 : decode cX8_burn 137 = .ok (.iadd, 1) := by decide +kernel
theorem dX8_burn_138 : decode cX8_burn 138 = .ok (.invokevirtual 217, 3) := by decide +kernel
theorem dX8_burn_141 : decode cX8_burn 141 = .ok (.istore 13, 2) := by decide +kernel
theorem dX8_burn_143 : decode cX8_burn 143 = .ok (.aload 7, 2) := by decide +kernel
theorem dX8_burn_145 : decode cX8_burn 145 = .ok (.iload 12, 2) := by decide +kernel
theorem dX8_burn_147 : decode cX8_burn 147 = .ok (.iload 13, 2) := by decide +kernel
theorem dX8_burn_149 : decode cX8_burn 149 = .ok (.invokevirtual 220, 3) := by decide +kernel
theorem dX8_burn_152 : decode cX8_burn 152 = .ok (.ifCond .ne 12, 3) := by decide +kernel
theorem dX8_burn_155 : decode cX8_burn 155 = .ok (.aload 9, 2) := by decide +kernel
theorem dX8_burn_157 : decode cX8_burn 157 = .ok (.iload 12, 2) := by decide +kernel
theorem dX8_burn_159 : decode cX8_burn 159 = .ok (.iload 13, 2) := by decide +kernel
theorem dX8_burn_161 : decode cX8_burn 161 = .ok (.invokevirtual 223, 3) := by decide +kernel
theorem dX8_burn_164 : decode cX8_burn 164 = .ok (.iinc 11 1, 3) := by decide +kernel
theorem dX8_burn_167 : decode cX8_burn 167 = .ok (.goto (-62), 3) := by decide +kernel
theorem dX8_burn_170 : decode cX8_burn 170 = .ok (.iload 6, 2) := by decide +kernel
theorem dX8_burn_172 : decode cX8_burn 172 = .ok (.aload 9, 2) := by decide +kernel
theorem dX8_burn_174 : decode cX8_burn 174 = .ok (.getfield 211, 3) := by decide +kernel
theorem dX8_burn_177 : decode cX8_burn 177 = .ok (.isub, 1) := by decide +kernel
theorem dX8_burn_178 : decode cX8_burn 178 = .ok (.ireturn, 1) := by decide +kernel
theorem dX8_wrong_0 : decode cX8_wrong 0 = .ok (.aload_n 0, 1) := by decide +kernel
theorem dX8_wrong_1 : decode cX8_wrong 1 = .ok (.iload_n 1, 1) := by decide +kernel
theorem dX8_wrong_2 : decode cX8_wrong 2 = .ok (.invokevirtual 144, 3) := by decide +kernel
theorem dX8_wrong_5 : decode cX8_wrong 5 = .ok (.astore 4, 2) := by decide +kernel
theorem dX8_wrong_7 : decode cX8_wrong 7 = .ok (.aload 4, 2) := by decide +kernel
theorem dX8_wrong_9 : decode cX8_wrong 9 = .ok (.ifnull 11, 3) := by decide +kernel
theorem dX8_wrong_12 : decode cX8_wrong 12 = .ok (.iload_n 2, 1) := by decide +kernel
theorem dX8_wrong_13 : decode cX8_wrong 13 = .ok (.iload_n 3, 1) := by decide +kernel
theorem dX8_wrong_14 : decode cX8_wrong 14 = .ok (.invokestatic 194, 3) := by decide +kernel
theorem dX8_wrong_17 : decode cX8_wrong 17 = .ok (.ifCond .ne 5, 3) := by decide +kernel
theorem dX8_wrong_20 : decode cX8_wrong 20 = .ok (.iconst (-1), 1) := by decide +kernel
theorem dX8_wrong_21 : decode cX8_wrong 21 = .ok (.ireturn, 1) := by decide +kernel
theorem dX8_wrong_22 : decode cX8_wrong 22 = .ok (.iconst 0, 1) := by decide +kernel
theorem dX8_wrong_23 : decode cX8_wrong 23 = .ok (.istore 5, 2) := by decide +kernel
theorem dX8_wrong_25 : decode cX8_wrong 25 = .ok (.aload 4, 2) := by decide +kernel
theorem dX8_wrong_27 : decode cX8_wrong 27 = .ok (.iload_n 2, 1) := by decide +kernel
theorem dX8_wrong_28 : decode cX8_wrong 28 = .ok (.iload_n 3, 1) := by decide +kernel
theorem dX8_wrong_29 : decode cX8_wrong 29 = .ok (.invokestatic 207, 3) := by decide +kernel
theorem dX8_wrong_32 : decode cX8_wrong 32 = .ok (.istore 6, 2) := by decide +kernel
theorem dX8_wrong_34 : decode cX8_wrong 34 = .ok (.iconst 0, 1) := by decide +kernel
theorem dX8_wrong_35 : decode cX8_wrong 35 = .ok (.istore 7, 2) := by decide +kernel
theorem dX8_wrong_37 : decode cX8_wrong 37 = .ok (.iload 7, 2) := by decide +kernel
theorem dX8_wrong_39 : decode cX8_wrong 39 = .ok (.iload 6, 2) := by decide +kernel
theorem dX8_wrong_41 : decode cX8_wrong 41 = .ok (.if_icmp .ge 37, 3) := by decide +kernel
theorem dX8_wrong_44 : decode cX8_wrong 44 = .ok (.aload 4, 2) := by decide +kernel
theorem dX8_wrong_46 : decode cX8_wrong 46 = .ok (.aload 4, 2) := by decide +kernel
theorem dX8_wrong_48 : decode cX8_wrong 48 = .ok (.iload 7, 2) := by decide +kernel
theorem dX8_wrong_50 : decode cX8_wrong 50 = .ok (.invokevirtual 214, 3) := by decide +kernel
theorem dX8_wrong_53 : decode cX8_wrong 53 = .ok (.aload_n 0, 1) := by decide +kernel
theorem dX8_wrong_54 : decode cX8_wrong 54 = .ok (.iload_n 2, 1) := by decide +kernel
theorem dX8_wrong_55 : decode cX8_wrong 55 = .ok (.iload_n 3, 1) := by decide +kernel
theorem dX8_wrong_56 : decode cX8_wrong 56 = .ok (.iload 7, 2) := by decide +kernel
theorem dX8_wrong_58 : decode cX8_wrong 58 = .ok (.imul, 1) := by decide +kernel
theorem dX8_wrong_59 : decode cX8_wrong 59 = .ok (.iadd, 1) := by decide +kernel
theorem dX8_wrong_60 : decode cX8_wrong 60 = .ok (.invokevirtual 217, 3) := by decide +kernel
theorem dX8_wrong_63 : decode cX8_wrong 63 = .ok (.invokevirtual 220, 3) := by decide +kernel
theorem dX8_wrong_66 : decode cX8_wrong 66 = .ok (.ifCond .ne 6, 3) := by decide +kernel
theorem dX8_wrong_69 : decode cX8_wrong 69 = .ok (.iinc 5 1, 3) := by decide +kernel
theorem dX8_wrong_72 : decode cX8_wrong 72 = .ok (.iinc 7 1, 3) := by decide +kernel
theorem dX8_wrong_75 : decode cX8_wrong 75 = .ok (.goto (-38), 3) := by decide +kernel
theorem dX8_wrong_78 : decode cX8_wrong 78 = .ok (.iload 5, 2) := by decide +kernel
theorem dX8_wrong_80 : decode cX8_wrong 80 = .ok (.ireturn, 1) := by decide +kernel
theorem dX8_read_0 : decode cX8_read 0 = .ok (.aload_n 0, 1) := by decide +kernel
theorem dX8_read_1 : decode cX8_read 1 = .ok (.iload_n 1, 1) := by decide +kernel
theorem dX8_read_2 : decode cX8_read 2 = .ok (.invokevirtual 144, 3) := by decide +kernel
theorem dX8_read_5 : decode cX8_read 5 = .ok (.astore 5, 2) := by decide +kernel
theorem dX8_read_7 : decode cX8_read 7 = .ok (.aload 5, 2) := by decide +kernel
theorem dX8_read_9 : decode cX8_read 9 = .ok (.ifnull 12, 3) := by decide +kernel
theorem dX8_read_12 : decode cX8_read 12 = .ok (.iload_n 3, 1) := by decide +kernel
theorem dX8_read_13 : decode cX8_read 13 = .ok (.iload 4, 2) := by decide +kernel
theorem dX8_read_15 : decode cX8_read 15 = .ok (.invokestatic 194, 3) := by decide +kernel
theorem dX8_read_18 : decode cX8_read 18 = .ok (.ifCond .ne 5, 3) := by decide +kernel
theorem dX8_read_21 : decode cX8_read 21 = .ok (.iconst (-1), 1) := by decide +kernel
theorem dX8_read_22 : decode cX8_read 22 = .ok (.ireturn, 1) := by decide +kernel
theorem dX8_read_23 : decode cX8_read 23 = .ok (.aload 5, 2) := by decide +kernel
theorem dX8_read_25 : decode cX8_read 25 = .ok (.iload_n 3, 1) := by decide +kernel
theorem dX8_read_26 : decode cX8_read 26 = .ok (.iload 4, 2) := by decide +kernel
theorem dX8_read_28 : decode cX8_read 28 = .ok (.invokestatic 207, 3) := by decide +kernel
theorem dX8_read_31 : decode cX8_read 31 = .ok (.istore 6, 2) := by decide +kernel
theorem dX8_read_33 : decode cX8_read 33 = .ok (.iconst 0, 1) := by decide +kernel
theorem dX8_read_34 : decode cX8_read 34 = .ok (.istore 7, 2) := by decide +kernel
theorem dX8_read_36 : decode cX8_read 36 = .ok (.iload 7, 2) := by decide +kernel
theorem dX8_read_38 : decode cX8_read 38 = .ok (.iload 6, 2) := by decide +kernel
theorem dX8_read_40 : decode cX8_read 40 = .ok (.if_icmp .ge 58, 3) := by decide +kernel
theorem dX8_read_43 : decode cX8_read 43 = .ok (.iload_n 3, 1) := by decide +kernel
theorem dX8_read_44 : decode cX8_read 44 = .ok (.iload 4, 2) := by decide +kernel
theorem dX8_read_46 : decode cX8_read 46 = .ok (.iload 7, 2) := by decide +kernel
theorem dX8_read_48 : decode cX8_read 48 = .ok (.imul, 1) := by decide +kernel
theorem dX8_read_49 : decode cX8_read 49 = .ok (.iadd, 1) := by decide +kernel
theorem dX8_read_50 : decode cX8_read 50 = .ok (.istore 8, 2) := by decide +kernel
theorem dX8_read_52 : decode cX8_read 52 = .ok (.iload 8, 2) := by decide +kernel
theorem dX8_read_54 : decode cX8_read 54 = .ok (.iconst 0, 1) := by decide +kernel
theorem dX8_read_55 : decode cX8_read 55 = .ok (.sipush 255, 3) := by decide +kernel
theorem dX8_read_58 : decode cX8_read 58 = .ok (.invokestatic 87, 3) := by decide +kernel
theorem dX8_read_61 : decode cX8_read 61 = .ok (.ifCond .eq 31, 3) := by decide +kernel
theorem dX8_read_64 : decode cX8_read 64 = .ok (.aload_n 0, 1) := by decide +kernel
theorem dX8_read_65 : decode cX8_read 65 = .ok (.getfield 16, 3) := by decide +kernel
theorem dX8_read_68 : decode cX8_read 68 = .ok (.iload 8, 2) := by decide +kernel
theorem dX8_read_70 : decode cX8_read 70 = .ok (.aload 5, 2) := by decide +kernel
theorem dX8_read_72 : decode cX8_read 72 = .ok (.iload_n 2, 1) := by decide +kernel
theorem dX8_read_73 : decode cX8_read 73 = .ok (.ifCond .eq 7, 3) := by decide +kernel
theorem dX8_read_76 : decode cX8_read 76 = .ok (.iconst 2, 1) := by decide +kernel
theorem dX8_read_77 : decode cX8_read 77 = .ok (.goto 4, 3) := by decide +kernel
theorem dX8_read_80 : decode cX8_read 80 = .ok (.iconst 1, 1) := by decide +kernel
theorem dX8_read_81 : decode cX8_read 81 = .ok (.aload 5, 2) := by decide +kernel
theorem dX8_read_83 : decode cX8_read 83 = .ok (.iload 7, 2) := by decide +kernel
theorem dX8_read_85 : decode cX8_read 85 = .ok (.invokevirtual 214, 3) := by decide +kernel
theorem dX8_read_88 : decode cX8_read 88 = .ok (.invokevirtual 172, 3) := by decide +kernel
theorem dX8_read_91 : decode cX8_read 91 = .ok (.iastore, 1) := by decide +kernel
theorem dX8_read_92 : decode cX8_read 92 = .ok (.iinc 7 1, 3) := by decide +kernel
theorem dX8_read_95 : decode cX8_read 95 = .ok (.goto (-59), 3) := by decide +kernel
theorem dX8_read_98 : decode cX8_read 98 = .ok (.iload 6, 2) := by decide +kernel
theorem dX8_read_100 : decode cX8_read 100 = .ok (.ireturn, 1) := by decide +kernel
theorem dX8_about_0 : decode cX8_about 0 = .ok (.iload_n 1, 1) := by decide +kernel
theorem dX8_about_1 : decode cX8_about 1 = .ok (.tableswitch 45 0 2 #[27, 32, 40], 27) := by decide +kernel
theorem dX8_about_28 : decode cX8_about 28 = .ok (.aload_n 0, 1) := by decide +kernel
theorem dX8_about_29 : decode cX8_about 29 = .ok (.getfield 130, 3) := by decide +kernel
theorem dX8_about_32 : decode cX8_about 32 = .ok (.ireturn, 1) := by decide +kernel
theorem dX8_about_33 : decode cX8_about 33 = .ok (.aload_n 0, 1) := by decide +kernel
theorem dX8_about_34 : decode cX8_about 34 = .ok (.getfield 10, 3) := by decide +kernel
theorem dX8_about_37 : decode cX8_about 37 = .ok (.invokevirtual 75, 3) := by decide +kernel
theorem dX8_about_40 : decode cX8_about 40 = .ok (.ireturn, 1) := by decide +kernel
theorem dX8_about_41 : decode cX8_about 41 = .ok (.aload_n 0, 1) := by decide +kernel
theorem dX8_about_42 : decode cX8_about 42 = .ok (.getfield 99, 3) := by decide +kernel
theorem dX8_about_45 : decode cX8_about 45 = .ok (.ireturn, 1) := by decide +kernel
theorem dX8_about_46 : decode cX8_about 46 = .ok (.iconst (-1), 1) := by decide +kernel
theorem dX8_about_47 : decode cX8_about 47 = .ok (.ireturn, 1) := by decide +kernel
theorem dX8_isWithin_0 : decode cX8_isWithin 0 = .ok (.iload_n 0, 1) := by decide +kernel
theorem dX8_isWithin_1 : decode cX8_isWithin 1 = .ok (.iload_n 1, 1) := by decide +kernel
theorem dX8_isWithin_2 : decode cX8_isWithin 2 = .ok (.if_icmp .lt 12, 3) := by decide +kernel
theorem dX8_isWithin_5 : decode cX8_isWithin 5 = .ok (.iload_n 0, 1) := by decide +kernel
theorem dX8_isWithin_6 : decode cX8_isWithin 6 = .ok (.iload_n 2, 1) := by decide +kernel
theorem dX8_isWithin_7 : decode cX8_isWithin 7 = .ok (.if_icmp .gt 7, 3) := by decide +kernel
theorem dX8_isWithin_10 : decode cX8_isWithin 10 = .ok (.iconst 1, 1) := by decide +kernel
theorem dX8_isWithin_11 : decode cX8_isWithin 11 = .ok (.goto 4, 3) := by decide +kernel
theorem dX8_isWithin_14 : decode cX8_isWithin 14 = .ok (.iconst 0, 1) := by decide +kernel
theorem dX8_isWithin_15 : decode cX8_isWithin 15 = .ok (.ireturn, 1) := by decide +kernel
theorem dX8_isSize_0 : decode cX8_isSize 0 = .ok (.iload_n 0, 1) := by decide +kernel
theorem dX8_isSize_1 : decode cX8_isSize 1 = .ok (.bipush 8, 2) := by decide +kernel
theorem dX8_isSize_3 : decode cX8_isSize 3 = .ok (.bipush 64, 2) := by decide +kernel
theorem dX8_isSize_5 : decode cX8_isSize 5 = .ok (.invokestatic 87, 3) := by decide +kernel
theorem dX8_isSize_8 : decode cX8_isSize 8 = .ok (.ifCond .eq 14, 3) := by decide +kernel
theorem dX8_isSize_11 : decode cX8_isSize 11 = .ok (.iload_n 0, 1) := by decide +kernel
theorem dX8_isSize_12 : decode cX8_isSize 12 = .ok (.bipush 8, 2) := by decide +kernel
theorem dX8_isSize_14 : decode cX8_isSize 14 = .ok (.irem, 1) := by decide +kernel
theorem dX8_isSize_15 : decode cX8_isSize 15 = .ok (.ifCond .ne 7, 3) := by decide +kernel
theorem dX8_isSize_18 : decode cX8_isSize 18 = .ok (.iconst 1, 1) := by decide +kernel
theorem dX8_isSize_19 : decode cX8_isSize 19 = .ok (.goto 4, 3) := by decide +kernel
theorem dX8_isSize_22 : decode cX8_isSize 22 = .ok (.iconst 0, 1) := by decide +kernel
theorem dX8_isSize_23 : decode cX8_isSize 23 = .ok (.ireturn, 1) := by decide +kernel
theorem dX8_isPart_0 : decode cX8_isPart 0 = .ok (.iload_n 0, 1) := by decide +kernel
theorem dX8_isPart_1 : decode cX8_isPart 1 = .ok (.iconst 0, 1) := by decide +kernel
theorem dX8_isPart_2 : decode cX8_isPart 2 = .ok (.sipush 255, 3) := by decide +kernel
theorem dX8_isPart_5 : decode cX8_isPart 5 = .ok (.invokestatic 87, 3) := by decide +kernel
theorem dX8_isPart_8 : decode cX8_isPart 8 = .ok (.ifCond .eq 17, 3) := by decide +kernel
theorem dX8_isPart_11 : decode cX8_isPart 11 = .ok (.iload_n 1, 1) := by decide +kernel
theorem dX8_isPart_12 : decode cX8_isPart 12 = .ok (.iconst 1, 1) := by decide +kernel
theorem dX8_isPart_13 : decode cX8_isPart 13 = .ok (.bipush 8, 2) := by decide +kernel
theorem dX8_isPart_15 : decode cX8_isPart 15 = .ok (.invokestatic 87, 3) := by decide +kernel
theorem dX8_isPart_18 : decode cX8_isPart 18 = .ok (.ifCond .eq 7, 3) := by decide +kernel
theorem dX8_isPart_21 : decode cX8_isPart 21 = .ok (.iconst 1, 1) := by decide +kernel
theorem dX8_isPart_22 : decode cX8_isPart 22 = .ok (.goto 4, 3) := by decide +kernel
theorem dX8_isPart_25 : decode cX8_isPart 25 = .ok (.iconst 0, 1) := by decide +kernel
theorem dX8_isPart_26 : decode cX8_isPart 26 = .ok (.ireturn, 1) := by decide +kernel
theorem dX8_chipAt_0 : decode cX8_chipAt 0 = .ok (.iload_n 1, 1) := by decide +kernel
theorem dX8_chipAt_1 : decode cX8_chipAt 1 = .ok (.ifCond .lt 25, 3) := by decide +kernel
theorem dX8_chipAt_4 : decode cX8_chipAt 4 = .ok (.iload_n 1, 1) := by decide +kernel
theorem dX8_chipAt_5 : decode cX8_chipAt 5 = .ok (.aload_n 0, 1) := by decide +kernel
theorem dX8_chipAt_6 : decode cX8_chipAt 6 = .ok (.getfield 130, 3) := by decide +kernel
theorem dX8_chipAt_9 : decode cX8_chipAt 9 = .ok (.if_icmp .ge 17, 3) := by decide +kernel
theorem dX8_chipAt_12 : decode cX8_chipAt 12 = .ok (.iload_n 1, 1) := by decide +kernel
theorem dX8_chipAt_13 : decode cX8_chipAt 13 = .ok (.iconst 4, 1) := by decide +kernel
theorem dX8_chipAt_14 : decode cX8_chipAt 14 = .ok (.if_icmp .ge 12, 3) := by decide +kernel
theorem dX8_chipAt_17 : decode cX8_chipAt 17 = .ok (.aload_n 0, 1) := by decide +kernel
theorem dX8_chipAt_18 : decode cX8_chipAt 18 = .ok (.getfield 54, 3) := by decide +kernel
theorem dX8_chipAt_21 : decode cX8_chipAt 21 = .ok (.iload_n 1, 1) := by decide +kernel
theorem dX8_chipAt_22 : decode cX8_chipAt 22 = .ok (.aaload, 1) := by decide +kernel
theorem dX8_chipAt_23 : decode cX8_chipAt 23 = .ok (.goto 4, 3) := by decide +kernel
theorem dX8_chipAt_26 : decode cX8_chipAt 26 = .ok (.aconst_null, 1) := by decide +kernel
theorem dX8_chipAt_27 : decode cX8_chipAt 27 = .ok (.areturn, 1) := by decide +kernel
theorem dX8_recipeAt_0 : decode cX8_recipeAt 0 = .ok (.iload_n 1, 1) := by decide +kernel
theorem dX8_recipeAt_1 : decode cX8_recipeAt 1 = .ok (.iconst 0, 1) := by decide +kernel
theorem dX8_recipeAt_2 : decode cX8_recipeAt 2 = .ok (.iconst 3, 1) := by decide +kernel
theorem dX8_recipeAt_3 : decode cX8_recipeAt 3 = .ok (.invokestatic 87, 3) := by decide +kernel
theorem dX8_recipeAt_6 : decode cX8_recipeAt 6 = .ok (.ifCond .eq 12, 3) := by decide +kernel
theorem dX8_recipeAt_9 : decode cX8_recipeAt 9 = .ok (.aload_n 0, 1) := by decide +kernel
theorem dX8_recipeAt_10 : decode cX8_recipeAt 10 = .ok (.getfield 60, 3) := by decide +kernel
theorem dX8_recipeAt_13 : decode cX8_recipeAt 13 = .ok (.iload_n 1, 1) := by decide +kernel
theorem dX8_recipeAt_14 : decode cX8_recipeAt 14 = .ok (.aaload, 1) := by decide +kernel
theorem dX8_recipeAt_15 : decode cX8_recipeAt 15 = .ok (.goto 4, 3) := by decide +kernel
theorem dX8_recipeAt_18 : decode cX8_recipeAt 18 = .ok (.aconst_null, 1) := by decide +kernel
theorem dX8_recipeAt_19 : decode cX8_recipeAt 19 = .ok (.areturn, 1) := by decide +kernel
theorem dX8_reachOf_0 : decode cX8_reachOf 0 = .ok (.iload_n 1, 1) := by decide +kernel
theorem dX8_reachOf_1 : decode cX8_reachOf 1 = .ok (.iload_n 2, 1) := by decide +kernel
theorem dX8_reachOf_2 : decode cX8_reachOf 2 = .ok (.invokestatic 194, 3) := by decide +kernel
theorem dX8_reachOf_5 : decode cX8_reachOf 5 = .ok (.ifCond .ne 5, 3) := by decide +kernel
theorem dX8_reachOf_8 : decode cX8_reachOf 8 = .ok (.iconst 0, 1) := by decide +kernel
theorem dX8_reachOf_9 : decode cX8_reachOf 9 = .ok (.ireturn, 1) := by decide +kernel
theorem dX8_reachOf_10 : decode cX8_reachOf 10 = .ok (.aload_n 0, 1) := by decide +kernel
theorem dX8_reachOf_11 : decode cX8_reachOf 11 = .ok (.invokevirtual 226, 3) := by decide +kernel
theorem dX8_reachOf_14 : decode cX8_reachOf 14 = .ok (.sipush 255, 3) := by decide +kernel
theorem dX8_reachOf_17 : decode cX8_reachOf 17 = .ok (.iload_n 1, 1) := by decide +kernel
theorem dX8_reachOf_18 : decode cX8_reachOf 18 = .ok (.isub, 1) := by decide +kernel
theorem dX8_reachOf_19 : decode cX8_reachOf 19 = .ok (.iload_n 2, 1) := by decide +kernel
theorem dX8_reachOf_20 : decode cX8_reachOf 20 = .ok (.idiv, 1) := by decide +kernel
theorem dX8_reachOf_21 : decode cX8_reachOf 21 = .ok (.iconst 1, 1) := by decide +kernel
theorem dX8_reachOf_22 : decode cX8_reachOf 22 = .ok (.iadd, 1) := by decide +kernel
theorem dX8_reachOf_23 : decode cX8_reachOf 23 = .ok (.invokestatic 229, 3) := by decide +kernel
theorem dX8_reachOf_26 : decode cX8_reachOf 26 = .ok (.ireturn, 1) := by decide +kernel
theorem dX8_hindrance_0 : decode cX8_hindrance 0 = .ok (.aload_n 1, 1) := by decide +kernel
theorem dX8_hindrance_1 : decode cX8_hindrance 1 = .ok (.invokevirtual 231, 3) := by decide +kernel
theorem dX8_hindrance_4 : decode cX8_hindrance 4 = .ok (.iconst (-1), 1) := by decide +kernel
theorem dX8_hindrance_5 : decode cX8_hindrance 5 = .ok (.if_icmp .eq 5, 3) := by decide +kernel
theorem dX8_hindrance_8 : decode cX8_hindrance 8 = .ok (.iconst 1, 1) := by decide +kernel
theorem dX8_hindrance_9 : decode cX8_hindrance 9 = .ok (.ireturn, 1) := by decide +kernel
theorem dX8_hindrance_10 : decode cX8_hindrance 10 = .ok (.aload_n 1, 1) := by decide +kernel
theorem dX8_hindrance_11 : decode cX8_hindrance 11 = .ok (.getfield 234, 3) := by decide +kernel
theorem dX8_hindrance_14 : decode cX8_hindrance 14 = .ok (.iload_n 3, 1) := by decide +kernel
theorem dX8_hindrance_15 : decode cX8_hindrance 15 = .ok (.if_icmp .eq 5, 3) := by decide +kernel
theorem dX8_hindrance_18 : decode cX8_hindrance 18 = .ok (.iconst 2, 1) := by decide +kernel
theorem dX8_hindrance_19 : decode cX8_hindrance 19 = .ok (.ireturn, 1) := by decide +kernel
theorem dX8_hindrance_20 : decode cX8_hindrance 20 = .ok (.aload_n 2, 1) := by decide +kernel
theorem dX8_hindrance_21 : decode cX8_hindrance 21 = .ok (.aload_n 1, 1) := by decide +kernel
theorem dX8_hindrance_22 : decode cX8_hindrance 22 = .ok (.invokevirtual 237, 3) := by decide +kernel
theorem dX8_hindrance_25 : decode cX8_hindrance 25 = .ok (.ifCond .ne 5, 3) := by decide +kernel
theorem dX8_hindrance_28 : decode cX8_hindrance 28 = .ok (.iconst 3, 1) := by decide +kernel
theorem dX8_hindrance_29 : decode cX8_hindrance 29 = .ok (.ireturn, 1) := by decide +kernel
theorem dX8_hindrance_30 : decode cX8_hindrance 30 = .ok (.aload_n 1, 1) := by decide +kernel
theorem dX8_hindrance_31 : decode cX8_hindrance 31 = .ok (.iload 4, 2) := by decide +kernel
theorem dX8_hindrance_33 : decode cX8_hindrance 33 = .ok (.iload 5, 2) := by decide +kernel
theorem dX8_hindrance_35 : decode cX8_hindrance 35 = .ok (.invokestatic 207, 3) := by decide +kernel
theorem dX8_hindrance_38 : decode cX8_hindrance 38 = .ok (.istore 6, 2) := by decide +kernel
theorem dX8_hindrance_40 : decode cX8_hindrance 40 = .ok (.iconst 0, 1) := by decide +kernel
theorem dX8_hindrance_41 : decode cX8_hindrance 41 = .ok (.istore 7, 2) := by decide +kernel
theorem dX8_hindrance_43 : decode cX8_hindrance 43 = .ok (.iload 7, 2) := by decide +kernel
theorem dX8_hindrance_45 : decode cX8_hindrance 45 = .ok (.iload 6, 2) := by decide +kernel
theorem dX8_hindrance_47 : decode cX8_hindrance 47 = .ok (.if_icmp .ge 36, 3) := by decide +kernel
theorem dX8_hindrance_50 : decode cX8_hindrance 50 = .ok (.aload_n 1, 1) := by decide +kernel
theorem dX8_hindrance_51 : decode cX8_hindrance 51 = .ok (.aload_n 1, 1) := by decide +kernel
theorem dX8_hindrance_52 : decode cX8_hindrance 52 = .ok (.iload 7, 2) := by decide +kernel
theorem dX8_hindrance_54 : decode cX8_hindrance 54 = .ok (.invokevirtual 214, 3) := by decide +kernel
theorem dX8_hindrance_57 : decode cX8_hindrance 57 = .ok (.aload_n 0, 1) := by decide +kernel
theorem dX8_hindrance_58 : decode cX8_hindrance 58 = .ok (.iload 4, 2) := by decide +kernel
theorem dX8_hindrance_60 : decode cX8_hindrance 60 = .ok (.iload 5, 2) := by decide +kernel
theorem dX8_hindrance_62 : decode cX8_hindrance 62 = .ok (.iload 7, 2) := by decide +kernel
theorem dX8_hindrance_64 : decode cX8_hindrance 64 = .ok (.imul, 1) := by decide +kernel
theorem dX8_hindrance_65 : decode cX8_hindrance 65 = .ok (.iadd, 1) := by decide +kernel
theorem dX8_hindrance_66 : decode cX8_hindrance 66 = .ok (.invokevirtual 217, 3) := by decide +kernel
theorem dX8_hindrance_69 : decode cX8_hindrance 69 = .ok (.invokevirtual 241, 3) := by decide +kernel
theorem dX8_hindrance_72 : decode cX8_hindrance 72 = .ok (.ifCond .eq 5, 3) := by decide +kernel
theorem dX8_hindrance_75 : decode cX8_hindrance 75 = .ok (.iconst 4, 1) := by decide +kernel
theorem dX8_hindrance_76 : decode cX8_hindrance 76 = .ok (.ireturn, 1) := by decide +kernel
theorem dX8_hindrance_77 : decode cX8_hindrance 77 = .ok (.iinc 7 1, 3) := by decide +kernel
theorem dX8_hindrance_80 : decode cX8_hindrance 80 = .ok (.goto (-37), 3) := by decide +kernel
theorem dX8_hindrance_83 : decode cX8_hindrance 83 = .ok (.iconst 0, 1) := by decide +kernel
theorem dX8_hindrance_84 : decode cX8_hindrance 84 = .ok (.ireturn, 1) := by decide +kernel
end
section
theorem dX9_init_0 : decode cX9_init 0 = .ok (.aload_n 0, 1) := by decide +kernel
theorem dX9_init_1 : decode cX9_init 1 = .ok (.invokespecial 1, 3) := by decide +kernel
theorem dX9_init_4 : decode cX9_init 4 = .ok (.aload_n 0, 1) := by decide +kernel
theorem dX9_init_5 : decode cX9_init 5 = .ok (.sipush 256, 3) := by decide +kernel
theorem dX9_init_8 : decode cX9_init 8 = .ok (.newarray .int, 2) := by decide +kernel
theorem dX9_init_10 : decode cX9_init 10 = .ok (.putfield 7, 3) := by decide +kernel
theorem dX9_init_13 : decode cX9_init 13 = .ok (.aload_n 0, 1) := by decide +kernel
theorem dX9_init_14 : decode cX9_init 14 = .ok (.sipush 400, 3) := by decide +kernel
theorem dX9_init_17 : decode cX9_init 17 = .ok (.newarray .int, 2) := by decide +kernel
theorem dX9_init_19 : decode cX9_init 19 = .ok (.putfield 13, 3) := by decide +kernel
theorem dX9_init_22 : decode cX9_init 22 = .ok (.aload_n 0, 1) := by decide +kernel
theorem dX9_init_23 : decode cX9_init 23 = .ok (.iconst (-1), 1) := by decide +kernel
theorem dX9_init_24 : decode cX9_init 24 = .ok (.putfield 16, 3) := by decide +kernel
theorem dX9_init_27 : decode cX9_init 27 = .ok (.aload_n 0, 1) := by decide +kernel
theorem dX9_init_28 : decode cX9_init 28 = .ok (.iconst (-1), 1) := by decide +kernel
theorem dX9_init_29 : decode cX9_init 29 = .ok (.putfield 20, 3) := by decide +kernel
theorem dX9_init_32 : decode cX9_init 32 = .ok (.aload_n 0, 1) := by decide +kernel
theorem dX9_init_33 : decode cX9_init 33 = .ok (.sipush 256, 3) := by decide +kernel
theorem dX9_init_36 : decode cX9_init 36 = .ok (.newarray .int, 2) := by decide +kernel
theorem dX9_init_38 : decode cX9_init 38 = .ok (.putfield 23, 3) := by decide +kernel
theorem dX9_init_41 : decode cX9_init 41 = .ok (.aload_n 0, 1) := by decide +kernel
theorem dX9_init_42 : decode cX9_init 42 = .ok (.sipush 256, 3) := by decide +kernel
theorem dX9_init_45 : decode cX9_init 45 = .ok (.newarray .boolean, 2) := by decide +kernel
theorem dX9_init_47 : decode cX9_init 47 = .ok (.putfield 26, 3) := by decide +kernel
theorem dX9_init_50 : decode cX9_init 50 = .ok (.aload_n 0, 1) := by decide +kernel
theorem dX9_init_51 : decode cX9_init 51 = .ok (.sipush 200, 3) := by decide +kernel
theorem dX9_init_54 : decode cX9_init 54 = .ok (.newarray .int, 2) := by decide +kernel
theorem dX9_init_56 : decode cX9_init 56 = .ok (.putfield 30, 3) := by decide +kernel
theorem dX9_init_59 : decode cX9_init 59 = .ok (.aload_n 0, 1) := by decide +kernel
theorem dX9_init_60 : decode cX9_init 60 = .ok (.iconst 4, 1) := by decide +kernel
theorem dX9_init_61 : decode cX9_init 61 = .ok (.newarray .int, 2) := by decide +kernel
theorem dX9_init_63 : decode cX9_init 63 = .ok (.putfield 33, 3) := by decide +kernel
theorem dX9_init_66 : decode cX9_init 66 = .ok (.aload_n 0, 1) := by decide +kernel
theorem dX9_init_67 : decode cX9_init 67 = .ok (.iconst 4, 1) := by decide +kernel
theorem dX9_init_68 : decode cX9_init 68 = .ok (.newarray .int, 2) := by decide +kernel
theorem dX9_init_70 : decode cX9_init 70 = .ok (.putfield 36, 3) := by decide +kernel
theorem dX9_init_73 : decode cX9_init 73 = .ok (.aload_n 0, 1) := by decide +kernel
theorem dX9_init_74 : decode cX9_init 74 = .ok (.iconst 4, 1) := by decide +kernel
theorem dX9_init_75 : decode cX9_init 75 = .ok (.newarray .boolean, 2) := by decide +kernel
theorem dX9_init_77 : decode cX9_init 77 = .ok (.putfield 39, 3) := by decide +kernel
theorem dX9_init_80 : decode cX9_init 80 = .ok (.aload_n 0, 1) := by decide +kernel
theorem dX9_init_81 : decode cX9_init 81 = .ok (.iconst 4, 1) := by decide +kernel
theorem dX9_init_82 : decode cX9_init 82 = .ok (.newarray .int, 2) := by decide +kernel
theorem dX9_init_84 : decode cX9_init 84 = .ok (.putfield 42, 3) := by decide +kernel
theorem dX9_init_87 : decode cX9_init 87 = .ok (.aload_n 0, 1) := by decide +kernel
theorem dX9_init_88 : decode cX9_init 88 = .ok (.iconst 4, 1) := by decide +kernel
theorem dX9_init_89 : decode cX9_init 89 = .ok (.newarray .int, 2) := by decide +kernel
theorem dX9_init_91 : decode cX9_init 91 = .ok (.putfield 45, 3) := by decide +kernel
theorem dX9_init_94 : decode cX9_init 94 = .ok (.aload_n 0, 1) := by decide +kernel
theorem dX9_init_95 : decode cX9_init 95 = .ok (.iconst 4, 1) := by decide +kernel
theorem dX9_init_96 : decode cX9_init 96 = .ok (.newarray .int, 2) := by decide +kernel
theorem dX9_init_98 : decode cX9_init 98 = .ok (.putfield 48, 3) := by decide +kernel
theorem dX9_init_101 : decode cX9_init 101 = .ok (.aload_n 0, 1) := by decide +kernel
theorem dX9_init_102 : decode cX9_init 102 = .ok (.iconst 4, 1) := by decide +kernel
theorem dX9_init_103 : decode cX9_init 103 = .ok (.newarray .int, 2) := by decide +kernel
theorem dX9_init_105 : decode cX9_init 105 = .ok (.putfield 51, 3) := by decide +kernel
theorem dX9_init_108 : decode cX9_init 108 = .ok (.aload_n 0, 1) := by decide +kernel
theorem dX9_init_109 : decode cX9_init 109 = .ok (.iconst 4, 1) := by decide +kernel
theorem dX9_init_110 : decode cX9_init 110 = .ok (.newarray .int, 2) := by decide +kernel
theorem dX9_init_112 : decode cX9_init 112 = .ok (.putfield 54, 3) := by decide +kernel
theorem dX9_init_115 : decode cX9_init 115 = .ok (.aload_n 0, 1) := by decide +kernel
theorem dX9_init_116 : decode cX9_init 116 = .ok (.iconst 4, 1) := by decide +kernel
theorem dX9_init_117 : decode cX9_init 117 = .ok (.newarray .int, 2) := by decide +kernel
theorem dX9_init_119 : decode cX9_init 119 = .ok (.putfield 57, 3) := by decide +kernel
theorem dX9_init_122 : decode cX9_init 122 = .ok (.aload_n 0, 1) := by decide +kernel
theorem dX9_init_123 : decode cX9_init 123 = .ok (.iconst 4, 1) := by decide +kernel
theorem dX9_init_124 : decode cX9_init 124 = .ok (.newarray .long, 2) := by decide +kernel
theorem dX9_init_126 : decode cX9_init 126 = .ok (.putfield 60, 3) := by decide +kernel
theorem dX9_init_129 : decode cX9_init 129 = .ok (.aload_n 0, 1) := by decide +kernel
theorem dX9_init_130 : decode cX9_init 130 = .ok (.sipush 256, 3) := by decide +kernel
theorem dX9_init_133 : decode cX9_init 133 = .ok (.newarray .int, 2) := by decide +kernel
theorem dX9_init_135 : decode cX9_init 135 = .ok (.putfield 64, 3) := by decide +kernel
theorem dX9_init_138 : decode cX9_init 138 = .ok (.aload_n 0, 1) := by decide +kernel
theorem dX9_init_139 : decode cX9_init 139 = .ok (.sipush 256, 3) := by decide +kernel
theorem dX9_init_142 : decode cX9_init 142 = .ok (.newarray .int, 2) := by decide +kernel
theorem dX9_init_144 : decode cX9_init 144 = .ok (.putfield 67, 3) := by decide +kernel
theorem dX9_init_147 : decode cX9_init 147 = .ok (.aload_n 0, 1) := by decide +kernel
theorem dX9_init_148 : decode cX9_init 148 = .ok (.sipush 256, 3) := by decide +kernel
theorem dX9_init_151 : decode cX9_init 151 = .ok (.newarray .int, 2) := by decide +kernel
theorem dX9_init_153 : decode cX9_init 153 = .ok (.putfield 70, 3) := by decide +kernel
theorem dX9_init_156 : decode cX9_init 156 = .ok (.aload_n 0, 1) := by decide +kernel
theorem dX9_init_157 : decode cX9_init 157 = .ok (.sipush 256, 3) := by decide +kernel
theorem dX9_init_160 : decode cX9_init 160 = .ok (.newarray .int, 2) := by decide +kernel
theorem dX9_init_162 : decode cX9_init 162 = .ok (.putfield 73, 3) := by decide +kernel
theorem dX9_init_165 : decode cX9_init 165 = .ok (.aload_n 0, 1) := by decide +kernel
theorem dX9_init_166 : decode cX9_init 166 = .ok (.sipush 256, 3) := by decide +kernel
theorem dX9_init_169 : decode cX9_init 169 = .ok (.newarray .int, 2) := by decide +kernel
theorem dX9_init_171 : decode cX9_init 171 = .ok (.putfield 76, 3) := by decide +kernel
theorem dX9_init_174 : decode cX9_init 174 = .ok (.aload_n 0, 1) := by decide +kernel
theorem dX9_init_175 : decode cX9_init 175 = .ok (.bipush 32, 2) := by decide +kernel
theorem dX9_init_177 : decode cX9_init 177 = .ok (.newarray .boolean, 2) := by decide +kernel
theorem dX9_init_179 : decode cX9_init 179 = .ok (.putfield 79, 3) := by decide +kernel
theorem dX9_init_182 : decode cX9_init 182 = .ok (.aload_n 0, 1) := by decide +kernel
theorem dX9_init_183 : decode cX9_init 183 = .ok (.bipush 112, 2) := by decide +kernel
theorem dX9_init_185 : decode cX9_init 185 = .ok (.newarray .boolean, 2) := by decide +kernel
theorem dX9_init_187 : decode cX9_init 187 = .ok (.putfield 82, 3) := by decide +kernel
theorem dX9_init_190 : decode cX9_init 190 = .ok (.aload_n 0, 1) := by decide +kernel
theorem dX9_init_191 : decode cX9_init 191 = .ok (.iconst 5, 1) := by decide +kernel
theorem dX9_init_192 : decode cX9_init 192 = .ok (.newarray .int, 2) := by decide +kernel
theorem dX9_init_194 : decode cX9_init 194 = .ok (.putfield 85, 3) := by decide +kernel
theorem dX9_init_197 : decode cX9_init 197 = .ok (.aload_n 0, 1) := by decide +kernel
theorem dX9_init_198 : decode cX9_init 198 = .ok (.iconst 5, 1) := by decide +kernel
theorem dX9_init_199 : decode cX9_init 199 = .ok (.newarray .int, 2) := by decide +kernel
theorem dX9_init_201 : decode cX9_init 201 = .ok (.putfield 88, 3) := by decide +kernel
theorem dX9_init_204 : decode cX9_init 204 = .ok (.aload_n 0, 1) := by decide +kernel
theorem dX9_init_205 : decode cX9_init 205 = .ok (.sipush 500, 3) := by decide +kernel
theorem dX9_init_208 : decode cX9_init 208 = .ok (.newarray .int, 2) := by decide +kernel
theorem dX9_init_210 : decode cX9_init 210 = .ok (.putfield 91, 3) := by decide +kernel
theorem dX9_init_213 : decode cX9_init 213 = .ok (.aload_n 0, 1) := by decide +kernel
theorem dX9_init_214 : decode cX9_init 214 = .ok (.sipush 500, 3) := by decide +kernel
theorem dX9_init_217 : decode cX9_init 217 = .ok (.newarray .int, 2) := by decide +kernel
theorem dX9_init_219 : decode cX9_init 219 = .ok (.putfield 94, 3) := by decide +kernel
theorem dX9_init_222 : decode cX9_init 222 = .ok (.aload_n 0, 1) := by decide +kernel
theorem dX9_init_223 : decode cX9_init 223 = .ok (.sipush 500, 3) := by decide +kernel
theorem dX9_init_226 : decode cX9_init 226 = .ok (.newarray .int, 2) := by decide +kernel
theorem dX9_init_228 : decode cX9_init 228 = .ok (.putfield 97, 3) := by decide +kernel
theorem dX9_init_231 : decode cX9_init 231 = .ok (.aload_n 0, 1) := by decide +kernel
theorem dX9_init_232 : decode cX9_init 232 = .ok (.iconst 5, 1) := by decide +kernel
theorem dX9_init_233 : decode cX9_init 233 = .ok (.newarray .int, 2) := by decide +kernel
theorem dX9_init_235 : decode cX9_init 235 = .ok (.putfield 100, 3) := by decide +kernel
theorem dX9_init_238 : decode cX9_init 238 = .ok (.aload_n 0, 1) := by decide +kernel
theorem dX9_init_239 : decode cX9_init 239 = .ok (.iconst 5, 1) := by decide +kernel
theorem dX9_init_240 : decode cX9_init 240 = .ok (.newarray .int, 2) := by decide +kernel
theorem dX9_init_242 : decode cX9_init 242 = .ok (.putfield 103, 3) := by decide +kernel
theorem dX9_init_245 : decode cX9_init 245 = .ok (.aload_n 0, 1) := by decide +kernel
theorem dX9_init_246 : decode cX9_init 246 = .ok (.bipush 6, 2) := by decide +kernel
theorem dX9_init_248 : decode cX9_init 248 = .ok (.newarray .int, 2) := by decide +kernel
theorem dX9_init_250 : decode cX9_init 250 = .ok (.putfield 106, 3) := by decide +kernel
theorem dX9_init_253 : decode cX9_init 253 = .ok (.aload_n 0, 1) := by decide +kernel
theorem dX9_init_254 : decode cX9_init 254 = .ok (.bipush 6, 2) := by decide +kernel
theorem dX9_init_256 : decode cX9_init 256 = .ok (.newarray .int, 2) := by decide +kernel
theorem dX9_init_258 : decode cX9_init 258 = .ok (.putfield 109, 3) := by decide +kernel
theorem dX9_init_261 : decode cX9_init 261 = .ok (.aload_n 0, 1) := by decide +kernel
theorem dX9_init_262 : decode cX9_init 262 = .ok (.bipush 6, 2) := by decide +kernel
theorem dX9_init_264 : decode cX9_init 264 = .ok (.newarray .int, 2) := by decide +kernel
theorem dX9_init_266 : decode cX9_init 266 = .ok (.putfield 112, 3) := by decide +kernel
theorem dX9_init_269 : decode cX9_init 269 = .ok (.aload_n 0, 1) := by decide +kernel
theorem dX9_init_270 : decode cX9_init 270 = .ok (.bipush 6, 2) := by decide +kernel
theorem dX9_init_272 : decode cX9_init 272 = .ok (.newarray .int, 2) := by decide +kernel
theorem dX9_init_274 : decode cX9_init 274 = .ok (.putfield 115, 3) := by decide +kernel
theorem dX9_init_277 : decode cX9_init 277 = .ok (.aload_n 0, 1) := by decide +kernel
theorem dX9_init_278 : decode cX9_init 278 = .ok (.bipush 6, 2) := by decide +kernel
theorem dX9_init_280 : decode cX9_init 280 = .ok (.newarray .int, 2) := by decide +kernel
theorem dX9_init_282 : decode cX9_init 282 = .ok (.putfield 118, 3) := by decide +kernel
theorem dX9_init_285 : decode cX9_init 285 = .ok (.aload_n 0, 1) := by decide +kernel
theorem dX9_init_286 : decode cX9_init 286 = .ok (.bipush 6, 2) := by decide +kernel
theorem dX9_init_288 : decode cX9_init 288 = .ok (.newarray .int, 2) := by decide +kernel
theorem dX9_init_290 : decode cX9_init 290 = .ok (.putfield 121, 3) := by decide +kernel
theorem dX9_init_293 : decode cX9_init 293 = .ok (.aload_n 0, 1) := by decide +kernel
theorem dX9_init_294 : decode cX9_init 294 = .ok (.bipush 101, 2) := by decide +kernel
theorem dX9_init_296 : decode cX9_init 296 = .ok (.newarray .int, 2) := by decide +kernel
theorem dX9_init_298 : decode cX9_init 298 = .ok (.putfield 124, 3) := by decide +kernel
theorem dX9_init_301 : decode cX9_init 301 = .ok (.aload_n 0, 1) := by decide +kernel
theorem dX9_init_302 : decode cX9_init 302 = .ok (.bipush 100, 2) := by decide +kernel
theorem dX9_init_304 : decode cX9_init 304 = .ok (.newarray .int, 2) := by decide +kernel
theorem dX9_init_306 : decode cX9_init 306 = .ok (.putfield 127, 3) := by decide +kernel
theorem dX9_init_309 : decode cX9_init 309 = .ok (.iconst 0, 1) := by decide +kernel
theorem dX9_init_310 : decode cX9_init 310 = .ok (.istore_n 1, 1) := by decide +kernel
theorem dX9_init_311 : decode cX9_init 311 = .ok (.iload_n 1, 1) := by decide +kernel
theorem dX9_init_312 : decode cX9_init 312 = .ok (.sipush 256, 3) := by decide +kernel
theorem dX9_init_315 : decode cX9_init 315 = .ok (.if_icmp .ge 18, 3) := by decide +kernel
theorem dX9_init_318 : decode cX9_init 318 = .ok (.aload_n 0, 1) := by decide +kernel
theorem dX9_init_319 : decode cX9_init 319 = .ok (.getfield 7, 3) := by decide +kernel
theorem dX9_init_322 : decode cX9_init 322 = .ok (.iload_n 1, 1) := by decide +kernel
theorem dX9_init_323 : decode cX9_init 323 = .ok (.sipush 255, 3) := by decide +kernel
theorem dX9_init_326 : decode cX9_init 326 = .ok (.iastore, 1) := by decide +kernel
theorem dX9_init_327 : decode cX9_init 327 = .ok (.iinc 1 1, 3) := by decide +kernel
theorem dX9_init_330 : decode cX9_init 330 = .ok (.goto (-19), 3) := by decide +kernel
theorem dX9_init_333 : decode cX9_init 333 = .ok (.return_, 1) := by decide +kernel
theorem dX9_isIn_0 : decode cX9_isIn 0 = .ok (.iload_n 0, 1) := by decide +kernel
theorem dX9_isIn_1 : decode cX9_isIn 1 = .ok (.iload_n 1, 1) := by decide +kernel
theorem dX9_isIn_2 : decode cX9_isIn 2 = .ok (.if_icmp .lt 12, 3) := by decide +kernel
theorem dX9_isIn_5 : decode cX9_isIn 5 = .ok (.iload_n 0, 1) := by decide +kernel
theorem dX9_isIn_6 : decode cX9_isIn 6 = .ok (.iload_n 2, 1) := by decide +kernel
theorem dX9_isIn_7 : decode cX9_isIn 7 = .ok (.if_icmp .gt 7, 3) := by decide +kernel
theorem dX9_isIn_10 : decode cX9_isIn 10 = .ok (.iconst 1, 1) := by decide +kernel
theorem dX9_isIn_11 : decode cX9_isIn 11 = .ok (.goto 4, 3) := by decide +kernel
theorem dX9_isIn_14 : decode cX9_isIn 14 = .ok (.iconst 0, 1) := by decide +kernel
theorem dX9_isIn_15 : decode cX9_isIn 15 = .ok (.ireturn, 1) := by decide +kernel
theorem dX9_four_0 : decode cX9_four 0 = .ok (.bipush 24, 2) := by decide +kernel
theorem dX9_four_2 : decode cX9_four 2 = .ok (.istore_n 2, 1) := by decide +kernel
theorem dX9_four_3 : decode cX9_four 3 = .ok (.iload_n 2, 1) := by decide +kernel
theorem dX9_four_4 : decode cX9_four 4 = .ok (.ifCond .lt 35, 3) := by decide +kernel
theorem dX9_four_7 : decode cX9_four 7 = .ok (.aload_n 0, 1) := by decide +kernel
theorem dX9_four_8 : decode cX9_four 8 = .ok (.getfield 13, 3) := by decide +kernel
theorem dX9_four_11 : decode cX9_four 11 = .ok (.aload_n 0, 1) := by decide +kernel
theorem dX9_four_12 : decode cX9_four 12 = .ok (.getfield 130, 3) := by decide +kernel
theorem dX9_four_15 : decode cX9_four 15 = .ok (.iload_n 1, 1) := by decide +kernel
theorem dX9_four_16 : decode cX9_four 16 = .ok (.iload_n 2, 1) := by decide +kernel
theorem dX9_four_17 : decode cX9_four 17 = .ok (.ishr, 1) := by decide +kernel
theorem dX9_four_18 : decode cX9_four 18 = .ok (.sipush 255, 3) := by decide +kernel
theorem dX9_four_21 : decode cX9_four 21 = .ok (.iand, 1) := by decide +kernel
theorem dX9_four_22 : decode cX9_four 22 = .ok (.iastore, 1) := by decide +kernel
theorem dX9_four_23 : decode cX9_four 23 = .ok (.aload_n 0, 1) := by decide +kernel
theorem dX9_four_24 : decode cX9_four 24 = .ok (.dup, 1) := by decide +kernel
theorem dX9_four_25 : decode cX9_four 25 = .ok (.getfield 130, 3) := by decide +kernel
theorem dX9_four_28 : decode cX9_four 28 = .ok (.iconst 1, 1) := by decide +kernel
theorem dX9_four_29 : decode cX9_four 29 = .ok (.iadd, 1) := by decide +kernel
theorem dX9_four_30 : decode cX9_four 30 = .ok (.putfield 130, 3) := by decide +kernel
theorem dX9_four_33 : decode cX9_four 33 = .ok (.iinc 2 (-8), 3) := by decide +kernel
theorem dX9_four_36 : decode cX9_four 36 = .ok (.goto (-33), 3) := by decide +kernel
theorem dX9_four_39 : decode cX9_four 39 = .ok (.return_, 1) := by decide +kernel
theorem dX9_feed_0 : decode cX9_feed 0 = .ok (.aload_n 0, 1) := by decide +kernel
theorem dX9_feed_1 : decode cX9_feed 1 = .ok (.getfield 130, 3) := by decide +kernel
theorem dX9_feed_4 : decode cX9_feed 4 = .ok (.bipush 20, 2) := by decide +kernel
theorem dX9_feed_6 : decode cX9_feed 6 = .ok (.iadd, 1) := by decide +kernel
theorem dX9_feed_7 : decode cX9_feed 7 = .ok (.sipush 400, 3) := by decide +kernel
theorem dX9_feed_10 : decode cX9_feed 10 = .ok (.if_icmp .le 5, 3) := by decide +kernel
theorem dX9_feed_13 : decode cX9_feed 13 = .ok (.iconst (-1), 1) := by decide +kernel
theorem dX9_feed_14 : decode cX9_feed 14 = .ok (.ireturn, 1) := by decide +kernel
theorem dX9_feed_15 : decode cX9_feed 15 = .ok (.aload_n 0, 1) := by decide +kernel
theorem dX9_feed_16 : decode cX9_feed 16 = .ok (.iload_n 1, 1) := by decide +kernel
theorem dX9_feed_17 : decode cX9_feed 17 = .ok (.invokevirtual 133, 3) := by decide +kernel
theorem dX9_feed_20 : decode cX9_feed 20 = .ok (.aload_n 0, 1) := by decide +kernel
theorem dX9_feed_21 : decode cX9_feed 21 = .ok (.iload_n 2, 1) := by decide +kernel
theorem dX9_feed_22 : decode cX9_feed 22 = .ok (.invokevirtual 133, 3) := by decide +kernel
theorem dX9_feed_25 : decode cX9_feed 25 = .ok (.aload_n 0, 1) := by decide +kernel
theorem dX9_feed_26 : decode cX9_feed 26 = .ok (.iload_n 3, 1) := by decide +kernel
theorem dX9_feed_27 : decode cX9_feed 27 = .ok (.invokevirtual 133, 3) := by decide +kernel
theorem dX9_feed_30 : decode cX9_feed 30 = .ok (.aload_n 0, 1) := by decide +kernel
theorem dX9_feed_31 : decode cX9_feed 31 = .ok (.iload 4, 2) := by decide +kernel
theorem dX9_feed_33 : decode cX9_feed 33 = .ok (.invokevirtual 133, 3) := by decide +kernel
theorem dX9_feed_36 : decode cX9_feed 36 = .ok (.aload_n 0, 1) := by decide +kernel
theorem dX9_feed_37 : decode cX9_feed 37 = .ok (.iload 5, 2) := by decide +kernel
theorem dX9_feed_39 : decode cX9_feed 39 = .ok (.invokevirtual 133, 3) := by decide +kernel
theorem dX9_feed_42 : decode cX9_feed 42 = .ok (.aload_n 0, 1) := by decide +kernel
theorem dX9_feed_43 : decode cX9_feed 43 = .ok (.getfield 130, 3) := by decide +kernel
theorem dX9_feed_46 : decode cX9_feed 46 = .ok (.ireturn, 1) := by decide +kernel
theorem dX9_end_0 : decode cX9_end 0 = .ok (.iload_n 1, 1) := by decide +kernel
theorem dX9_end_1 : decode cX9_end 1 = .ok (.iconst 0, 1) := by decide +kernel
theorem dX9_end_2 : decode cX9_end 2 = .ok (.aload_n 0, 1) := by decide +kernel
theorem dX9_end_3 : decode cX9_end 3 = .ok (.getfield 130, 3) := by decide +kernel
theorem dX9_end_6 : decode cX9_end 6 = .ok (.invokestatic 137, 3) := by decide +kernel
theorem dX9_end_9 : decode cX9_end 9 = .ok (.ifCond .ne 5, 3) := by decide +kernel
theorem dX9_end_12 : decode cX9_end 12 = .ok (.iconst (-1), 1) := by decide +kernel
theorem dX9_end_13 : decode cX9_end 13 = .ok (.ireturn, 1) := by decide +kernel
theorem dX9_end_14 : decode cX9_end 14 = .ok (.aload_n 0, 1) := by decide +kernel
theorem dX9_end_15 : decode cX9_end 15 = .ok (.iload_n 1, 1) := by decide +kernel
theorem dX9_end_16 : decode cX9_end 16 = .ok (.putfield 130, 3) := by decide +kernel
theorem dX9_end_19 : decode cX9_end 19 = .ok (.iload_n 1, 1) := by decide +kernel
theorem dX9_end_20 : decode cX9_end 20 = .ok (.ireturn, 1) := by decide +kernel
theorem dX9_tape_0 : decode cX9_tape 0 = .ok (.iload_n 1, 1) := by decide +kernel
theorem dX9_tape_1 : decode cX9_tape 1 = .ok (.iconst 0, 1) := by decide +kernel
theorem dX9_tape_2 : decode cX9_tape 2 = .ok (.aload_n 0, 1) := by decide +kernel
theorem dX9_tape_3 : decode cX9_tape 3 = .ok (.getfield 130, 3) := by decide +kernel
theorem dX9_tape_6 : decode cX9_tape 6 = .ok (.iconst 1, 1) := by decide +kernel
theorem dX9_tape_7 : decode cX9_tape 7 = .ok (.isub, 1) := by decide +kernel
theorem dX9_tape_8 : decode cX9_tape 8 = .ok (.invokestatic 137, 3) := by decide +kernel
theorem dX9_tape_11 : decode cX9_tape 11 = .ok (.ifCond .eq 12, 3) := by decide +kernel
theorem dX9_tape_14 : decode cX9_tape 14 = .ok (.aload_n 0, 1) := by decide +kernel
theorem dX9_tape_15 : decode cX9_tape 15 = .ok (.getfield 13, 3) := by decide +kernel
theorem dX9_tape_18 : decode cX9_tape 18 = .ok (.iload_n 1, 1) := by decide +kernel
theorem dX9_tape_19 : decode cX9_tape 19 = .ok (.iaload, 1) := by decide +kernel
theorem dX9_tape_20 : decode cX9_tape 20 = .ok (.goto 4, 3) := by decide +kernel
theorem dX9_tape_23 : decode cX9_tape 23 = .ok (.iconst (-1), 1) := by decide +kernel
theorem dX9_tape_24 : decode cX9_tape 24 = .ok (.ireturn, 1) := by decide +kernel
theorem dX9_image_0 : decode cX9_image 0 = .ok (.iload_n 1, 1) := by decide +kernel
theorem dX9_image_1 : decode cX9_image 1 = .ok (.iconst 0, 1) := by decide +kernel
theorem dX9_image_2 : decode cX9_image 2 = .ok (.sipush 255, 3) := by decide +kernel
theorem dX9_image_5 : decode cX9_image 5 = .ok (.invokestatic 137, 3) := by decide +kernel
theorem dX9_image_8 : decode cX9_image 8 = .ok (.ifCond .eq 12, 3) := by decide +kernel
theorem dX9_image_11 : decode cX9_image 11 = .ok (.aload_n 0, 1) := by decide +kernel
theorem dX9_image_12 : decode cX9_image 12 = .ok (.getfield 7, 3) := by decide +kernel
theorem dX9_image_15 : decode cX9_image 15 = .ok (.iload_n 1, 1) := by decide +kernel
theorem dX9_image_16 : decode cX9_image 16 = .ok (.iaload, 1) := by decide +kernel
theorem dX9_image_17 : decode cX9_image 17 = .ok (.goto 4, 3) := by decide +kernel
theorem dX9_image_20 : decode cX9_image 20 = .ok (.iconst (-1), 1) := by decide +kernel
theorem dX9_image_21 : decode cX9_image 21 = .ok (.ireturn, 1) := by decide +kernel
theorem dX9_fill_0 : decode cX9_fill 0 = .ok (.iload_n 1, 1) := by decide +kernel
theorem dX9_fill_1 : decode cX9_fill 1 = .ok (.iconst 0, 1) := by decide +kernel
theorem dX9_fill_2 : decode cX9_fill 2 = .ok (.sipush 255, 3) := by decide +kernel
theorem dX9_fill_5 : decode cX9_fill 5 = .ok (.invokestatic 137, 3) := by decide +kernel
theorem dX9_fill_8 : decode cX9_fill 8 = .ok (.ifCond .ne 5, 3) := by decide +kernel
theorem dX9_fill_11 : decode cX9_fill 11 = .ok (.iconst 0, 1) := by decide +kernel
theorem dX9_fill_12 : decode cX9_fill 12 = .ok (.ireturn, 1) := by decide +kernel
theorem dX9_fill_13 : decode cX9_fill 13 = .ok (.iconst 0, 1) := by decide +kernel
theorem dX9_fill_14 : decode cX9_fill 14 = .ok (.istore_n 2, 1) := by decide +kernel
theorem dX9_fill_15 : decode cX9_fill 15 = .ok (.iload_n 2, 1) := by decide +kernel
theorem dX9_fill_16 : decode cX9_fill 16 = .ok (.sipush 256, 3) := by decide +kernel
theorem dX9_fill_19 : decode cX9_fill 19 = .ok (.if_icmp .ge 16, 3) := by decide +kernel
theorem dX9_fill_22 : decode cX9_fill 22 = .ok (.aload_n 0, 1) := by decide +kernel
theorem dX9_fill_23 : decode cX9_fill 23 = .ok (.getfield 7, 3) := by decide +kernel
theorem dX9_fill_26 : decode cX9_fill 26 = .ok (.iload_n 2, 1) := by decide +kernel
theorem dX9_fill_27 : decode cX9_fill 27 = .ok (.iload_n 1, 1) := by decide +kernel
theorem dX9_fill_28 : decode cX9_fill 28 = .ok (.iastore, 1) := by decide +kernel
theorem dX9_fill_29 : decode cX9_fill 29 = .ok (.iinc 2 1, 3) := by decide +kernel
theorem dX9_fill_32 : decode cX9_fill 32 = .ok (.goto (-17), 3) := by decide +kernel
theorem dX9_fill_35 : decode cX9_fill 35 = .ok (.iconst 1, 1) := by decide +kernel
theorem dX9_fill_36 : decode cX9_fill 36 = .ok (.ireturn, 1) := by decide +kernel
theorem dX9_digitOf_0 : decode cX9_digitOf 0 = .ok (.iload_n 0, 1) := by decide +kernel
theorem dX9_digitOf_1 : decode cX9_digitOf 1 = .ok (.bipush 48, 2) := by decide +kernel
theorem dX9_digitOf_3 : decode cX9_digitOf 3 = .ok (.bipush 57, 2) := by decide +kernel
theorem dX9_digitOf_5 : decode cX9_digitOf 5 = .ok (.invokestatic 137, 3) := by decide +kernel
theorem dX9_digitOf_8 : decode cX9_digitOf 8 = .ok (.ifCond .eq 10, 3) := by decide +kernel
theorem dX9_digitOf_11 : decode cX9_digitOf 11 = .ok (.iload_n 0, 1) := by decide +kernel
theorem dX9_digitOf_12 : decode cX9_digitOf 12 = .ok (.bipush 48, 2) := by decide +kernel
theorem dX9_digitOf_14 : decode cX9_digitOf 14 = .ok (.isub, 1) := by decide +kernel
theorem dX9_digitOf_15 : decode cX9_digitOf 15 = .ok (.goto 25, 3) := by decide +kernel
theorem dX9_digitOf_18 : decode cX9_digitOf 18 = .ok (.iload_n 0, 1) := by decide +kernel
theorem dX9_digitOf_19 : decode cX9_digitOf 19 = .ok (.bipush 65, 2) := by decide +kernel
theorem dX9_digitOf_21 : decode cX9_digitOf 21 = .ok (.bipush 70, 2) := by decide +kernel
theorem dX9_digitOf_23 : decode cX9_digitOf 23 = .ok (.invokestatic 137, 3) := by decide +kernel
theorem dX9_digitOf_26 : decode cX9_digitOf 26 = .ok (.ifCond .eq 13, 3) := by decide +kernel
theorem dX9_digitOf_29 : decode cX9_digitOf 29 = .ok (.iload_n 0, 1) := by decide +kernel
theorem dX9_digitOf_30 : decode cX9_digitOf 30 = .ok (.bipush 65, 2) := by decide +kernel
theorem dX9_digitOf_32 : decode cX9_digitOf 32 = .ok (.isub, 1) := by decide +kernel
theorem dX9_digitOf_33 : decode cX9_digitOf 33 = .ok (.bipush 10, 2) := by decide +kernel
theorem dX9_digitOf_35 : decode cX9_digitOf 35 = .ok (.iadd, 1) := by decide +kernel
theorem dX9_digitOf_36 : decode cX9_digitOf 36 = .ok (.goto 4, 3) := by decide +kernel
theorem dX9_digitOf_39 : decode cX9_digitOf 39 = .ok (.iconst (-1), 1) := by decide +kernel
theorem dX9_digitOf_40 : decode cX9_digitOf 40 = .ok (.ireturn, 1) := by decide +kernel
theorem dX9_bytes_0 : decode cX9_bytes 0 = .ok (.iload_n 2, 1) := by decide +kernel
theorem dX9_bytes_1 : decode cX9_bytes 1 = .ok (.iload_n 1, 1) := by decide +kernel
theorem dX9_bytes_2 : decode cX9_bytes 2 = .ok (.isub, 1) := by decide +kernel
theorem dX9_bytes_3 : decode cX9_bytes 3 = .ok (.iconst 2, 1) := by decide +kernel
theorem dX9_bytes_4 : decode cX9_bytes 4 = .ok (.irem, 1) := by decide +kernel
theorem dX9_bytes_5 : decode cX9_bytes 5 = .ok (.ifCond .eq 5, 3) := by decide +kernel
theorem dX9_bytes_8 : decode cX9_bytes 8 = .ok (.iconst (-1), 1) := by decide +kernel
theorem dX9_bytes_9 : decode cX9_bytes 9 = .ok (.ireturn, 1) := by decide +kernel
theorem dX9_bytes_10 : decode cX9_bytes 10 = .ok (.iconst 0, 1) := by decide +kernel
theorem dX9_bytes_11 : decode cX9_bytes 11 = .ok (.istore_n 3, 1) := by decide +kernel
theorem dX9_bytes_12 : decode cX9_bytes 12 = .ok (.iload_n 1, 1) := by decide +kernel
theorem dX9_bytes_13 : decode cX9_bytes 13 = .ok (.istore 4, 2) := by decide +kernel
theorem dX9_bytes_15 : decode cX9_bytes 15 = .ok (.iload 4, 2) := by decide +kernel
theorem dX9_bytes_17 : decode cX9_bytes 17 = .ok (.iload_n 2, 1) := by decide +kernel
theorem dX9_bytes_18 : decode cX9_bytes 18 = .ok (.if_icmp .ge 64, 3) := by decide +kernel
theorem dX9_bytes_21 : decode cX9_bytes 21 = .ok (.aload_n 0, 1) := by decide +kernel
theorem dX9_bytes_22 : decode cX9_bytes 22 = .ok (.getfield 13, 3) := by decide +kernel
theorem dX9_bytes_25 : decode cX9_bytes 25 = .ok (.iload 4, 2) := by decide +kernel
theorem dX9_bytes_27 : decode cX9_bytes 27 = .ok (.iaload, 1) := by decide +kernel
theorem dX9_bytes_28 : decode cX9_bytes 28 = .ok (.invokestatic 141, 3) := by decide +kernel
theorem dX9_bytes_31 : decode cX9_bytes 31 = .ok (.istore 5, 2) := by decide +kernel
theorem dX9_bytes_33 : decode cX9_bytes 33 = .ok (.aload_n 0, 1) := by decide +kernel
theorem dX9_bytes_34 : decode cX9_bytes 34 = .ok (.getfield 13, 3) := by decide +kernel
theorem dX9_bytes_37 : decode cX9_bytes 37 = .ok (.iload 4, 2) := by decide +kernel
theorem dX9_bytes_39 : decode cX9_bytes 39 = .ok (.iconst 1, 1) := by decide +kernel
theorem dX9_bytes_40 : decode cX9_bytes 40 = .ok (.iadd, 1) := by decide +kernel
theorem dX9_bytes_41 : decode cX9_bytes 41 = .ok (.iaload, 1) := by decide +kernel
theorem dX9_bytes_42 : decode cX9_bytes 42 = .ok (.invokestatic 141, 3) := by decide +kernel
theorem dX9_bytes_45 : decode cX9_bytes 45 = .ok (.istore 6, 2) := by decide +kernel
theorem dX9_bytes_47 : decode cX9_bytes 47 = .ok (.iload 5, 2) := by decide +kernel
theorem dX9_bytes_49 : decode cX9_bytes 49 = .ok (.ifCond .lt 8, 3) := by decide +kernel
theorem dX9_bytes_52 : decode cX9_bytes 52 = .ok (.iload 6, 2) := by decide +kernel
theorem dX9_bytes_54 : decode cX9_bytes 54 = .ok (.ifCond .ge 5, 3) := by decide +kernel
theorem dX9_bytes_57 : decode cX9_bytes 57 = .ok (.iconst (-1), 1) := by decide +kernel
theorem dX9_bytes_58 : decode cX9_bytes 58 = .ok (.ireturn, 1) := by decide +kernel
theorem dX9_bytes_59 : decode cX9_bytes 59 = .ok (.aload_n 0, 1) := by decide +kernel
theorem dX9_bytes_60 : decode cX9_bytes 60 = .ok (.getfield 30, 3) := by decide +kernel
theorem dX9_bytes_63 : decode cX9_bytes 63 = .ok (.iload_n 3, 1) := by decide +kernel
theorem dX9_bytes_64 : decode cX9_bytes 64 = .ok (.bipush 16, 2) := by decide +kernel
theorem dX9_bytes_66 : decode cX9_bytes 66 = .ok (.iload 5, 2) := by decide +kernel
theorem dX9_bytes_68 : decode cX9_bytes 68 = .ok (.imul, 1) := by decide +kernel
theorem dX9_bytes_69 : decode cX9_bytes 69 = .ok (.iload 6, 2) := by decide +kernel
theorem dX9_bytes_71 : decode cX9_bytes 71 = .ok (.iadd, 1) := by decide +kernel
theorem dX9_bytes_72 : decode cX9_bytes 72 = .ok (.iastore, 1) := by decide +kernel
theorem dX9_bytes_73 : decode cX9_bytes 73 = .ok (.iinc 3 1, 3) := by decide +kernel
theorem dX9_bytes_76 : decode cX9_bytes 76 = .ok (.iinc 4 2, 3) := by decide +kernel
theorem dX9_bytes_79 : decode cX9_bytes 79 = .ok (.goto (-64), 3) := by decide +kernel
theorem dX9_bytes_82 : decode cX9_bytes 82 = .ok (.iload_n 3, 1) := by decide +kernel
theorem dX9_bytes_83 : decode cX9_bytes 83 = .ok (.ireturn, 1) := by decide +kernel
theorem dX9_put_0 : decode cX9_put 0 = .ok (.aload_n 0, 1) := by decide +kernel
theorem dX9_put_1 : decode cX9_put 1 = .ok (.getfield 23, 3) := by decide +kernel
theorem dX9_put_4 : decode cX9_put 4 = .ok (.iload_n 1, 1) := by decide +kernel
theorem dX9_put_5 : decode cX9_put 5 = .ok (.iload_n 2, 1) := by decide +kernel
theorem dX9_put_6 : decode cX9_put 6 = .ok (.iastore, 1) := by decide +kernel
theorem dX9_put_7 : decode cX9_put 7 = .ok (.aload_n 0, 1) := by decide +kernel
theorem dX9_put_8 : decode cX9_put 8 = .ok (.getfield 26, 3) := by decide +kernel
theorem dX9_put_11 : decode cX9_put 11 = .ok (.iload_n 1, 1) := by decide +kernel
theorem dX9_put_12 : decode cX9_put 12 = .ok (.iconst 1, 1) := by decide +kernel
theorem dX9_put_13 : decode cX9_put 13 = .ok (.bastore, 1) := by decide +kernel
theorem dX9_put_14 : decode cX9_put 14 = .ok (.aload_n 0, 1) := by decide +kernel
theorem dX9_put_15 : decode cX9_put 15 = .ok (.dup, 1) := by decide +kernel
theorem dX9_put_16 : decode cX9_put 16 = .ok (.getfield 145, 3) := by decide +kernel
theorem dX9_put_19 : decode cX9_put 19 = .ok (.iconst 1, 1) := by decide +kernel
theorem dX9_put_20 : decode cX9_put 20 = .ok (.iadd, 1) := by decide +kernel
theorem dX9_put_21 : decode cX9_put 21 = .ok (.putfield 145, 3) := by decide +kernel
theorem dX9_put_24 : decode cX9_put 24 = .ok (.return_, 1) := by decide +kernel
theorem dX9_sumOf_0 : decode cX9_sumOf 0 = .ok (.iconst 0, 1) := by decide +kernel
theorem dX9_sumOf_1 : decode cX9_sumOf 1 = .ok (.istore_n 2, 1) := by decide +kernel
theorem dX9_sumOf_2 : decode cX9_sumOf 2 = .ok (.iconst 0, 1) := by decide +kernel
theorem dX9_sumOf_3 : decode cX9_sumOf 3 = .ok (.istore_n 3, 1) := by decide +kernel
theorem dX9_sumOf_4 : decode cX9_sumOf 4 = .ok (.iload_n 3, 1) := by decide +kernel
theorem dX9_sumOf_5 : decode cX9_sumOf 5 = .ok (.iload_n 1, 1) := by decide +kernel
theorem dX9_sumOf_6 : decode cX9_sumOf 6 = .ok (.if_icmp .ge 18, 3) := by decide +kernel
theorem dX9_sumOf_9 : decode cX9_sumOf 9 = .ok (.iload_n 2, 1) := by decide +kernel
theorem dX9_sumOf_10 : decode cX9_sumOf 10 = .ok (.aload_n 0, 1) := by decide +kernel
theorem dX9_sumOf_11 : decode cX9_sumOf 11 = .ok (.getfield 30, 3) := by decide +kernel
theorem dX9_sumOf_14 : decode cX9_sumOf 14 = .ok (.iload_n 3, 1) := by decide +kernel
theorem dX9_sumOf_15 : decode cX9_sumOf 15 = .ok (.iaload, 1) := by decide +kernel
theorem dX9_sumOf_16 : decode cX9_sumOf 16 = .ok (.iadd, 1) := by decide +kernel
theorem dX9_sumOf_17 : decode cX9_sumOf 17 = .ok (.istore_n 2, 1) := by decide +kernel
theorem dX9_sumOf_18 : decode cX9_sumOf 18 = .ok (.iinc 3 1, 3) := by decide +kernel
theorem dX9_sumOf_21 : decode cX9_sumOf 21 = .ok (.goto (-17), 3) := by decide +kernel
theorem dX9_sumOf_24 : decode cX9_sumOf 24 = .ok (.iload_n 2, 1) := by decide +kernel
theorem dX9_sumOf_25 : decode cX9_sumOf 25 = .ok (.sipush 256, 3) := by decide +kernel
theorem dX9_sumOf_28 : decode cX9_sumOf 28 = .ok (.irem, 1) := by decide +kernel
theorem dX9_sumOf_29 : decode cX9_sumOf 29 = .ok (.ireturn, 1) := by decide +kernel
theorem dX9_lineOne_0 : decode cX9_lineOne 0 = .ok (.aload_n 0, 1) := by decide +kernel
theorem dX9_lineOne_1 : decode cX9_lineOne 1 = .ok (.getfield 13, 3) := by decide +kernel
theorem dX9_lineOne_4 : decode cX9_lineOne 4 = .ok (.iload_n 1, 1) := by decide +kernel
theorem dX9_lineOne_5 : decode cX9_lineOne 5 = .ok (.iaload, 1) := by decide +kernel
theorem dX9_lineOne_6 : decode cX9_lineOne 6 = .ok (.bipush 58, 2) := by decide +kernel
theorem dX9_lineOne_8 : decode cX9_lineOne 8 = .ok (.if_icmp .ne 14, 3) := by decide +kernel
theorem dX9_lineOne_11 : decode cX9_lineOne 11 = .ok (.aload_n 0, 1) := by decide +kernel
theorem dX9_lineOne_12 : decode cX9_lineOne 12 = .ok (.iload_n 1, 1) := by decide +kernel
theorem dX9_lineOne_13 : decode cX9_lineOne 13 = .ok (.iconst 1, 1) := by decide +kernel
theorem dX9_lineOne_14 : decode cX9_lineOne 14 = .ok (.iadd, 1) := by decide +kernel
theorem dX9_lineOne_15 : decode cX9_lineOne 15 = .ok (.iload_n 2, 1) := by decide +kernel
theorem dX9_lineOne_16 : decode cX9_lineOne 16 = .ok (.invokevirtual 148, 3) := by decide +kernel
theorem dX9_lineOne_19 : decode cX9_lineOne 19 = .ok (.goto 4, 3) := by decide +kernel
theorem dX9_lineOne_22 : decode cX9_lineOne 22 = .ok (.iconst (-1), 1) := by decide +kernel
theorem dX9_lineOne_23 : decode cX9_lineOne 23 = .ok (.istore_n 3, 1) := by decide +kernel
theorem dX9_lineOne_24 : decode cX9_lineOne 24 = .ok (.iload_n 3, 1) := by decide +kernel
theorem dX9_lineOne_25 : decode cX9_lineOne 25 = .ok (.iconst 5, 1) := by decide +kernel
theorem dX9_lineOne_26 : decode cX9_lineOne 26 = .ok (.if_icmp .lt 15, 3) := by decide +kernel
theorem dX9_lineOne_29 : decode cX9_lineOne 29 = .ok (.iload_n 3, 1) := by decide +kernel
theorem dX9_lineOne_30 : decode cX9_lineOne 30 = .ok (.aload_n 0, 1) := by decide +kernel
theorem dX9_lineOne_31 : decode cX9_lineOne 31 = .ok (.getfield 30, 3) := by decide +kernel
theorem dX9_lineOne_34 : decode cX9_lineOne 34 = .ok (.iconst 0, 1) := by decide +kernel
theorem dX9_lineOne_35 : decode cX9_lineOne 35 = .ok (.iaload, 1) := by decide +kernel
theorem dX9_lineOne_36 : decode cX9_lineOne 36 = .ok (.iconst 5, 1) := by decide +kernel
theorem dX9_lineOne_37 : decode cX9_lineOne 37 = .ok (.iadd, 1) := by decide +kernel
theorem dX9_lineOne_38 : decode cX9_lineOne 38 = .ok (.if_icmp .eq 5, 3) := by decide +kernel
theorem dX9_lineOne_41 : decode cX9_lineOne 41 = .ok (.iconst 1, 1) := by decide +kernel
theorem dX9_lineOne_42 : decode cX9_lineOne 42 = .ok (.ireturn, 1) := by decide +kernel
theorem dX9_lineOne_43 : decode cX9_lineOne 43 = .ok (.aload_n 0, 1) := by decide +kernel
theorem dX9_lineOne_44 : decode cX9_lineOne 44 = .ok (.getfield 30, 3) := by decide +kernel
theorem dX9_lineOne_47 : decode cX9_lineOne 47 = .ok (.iconst 3, 1) := by decide +kernel
theorem dX9_lineOne_48 : decode cX9_lineOne 48 = .ok (.iaload, 1) := by decide +kernel
theorem dX9_lineOne_49 : decode cX9_lineOne 49 = .ok (.istore 4, 2) := by decide +kernel
theorem dX9_lineOne_51 : decode cX9_lineOne 51 = .ok (.iload 4, 2) := by decide +kernel
theorem dX9_lineOne_53 : decode cX9_lineOne 53 = .ok (.iconst 1, 1) := by decide +kernel
theorem dX9_lineOne_54 : decode cX9_lineOne 54 = .ok (.if_icmp .gt 18, 3) := by decide +kernel
theorem dX9_lineOne_57 : decode cX9_lineOne 57 = .ok (.iload 4, 2) := by decide +kernel
theorem dX9_lineOne_59 : decode cX9_lineOne 59 = .ok (.iconst 1, 1) := by decide +kernel
theorem dX9_lineOne_60 : decode cX9_lineOne 60 = .ok (.if_icmp .ne 14, 3) := by decide +kernel
theorem dX9_lineOne_63 : decode cX9_lineOne 63 = .ok (.aload_n 0, 1) := by decide +kernel
theorem dX9_lineOne_64 : decode cX9_lineOne 64 = .ok (.getfield 30, 3) := by decide +kernel
theorem dX9_lineOne_67 : decode cX9_lineOne 67 = .ok (.iconst 0, 1) := by decide +kernel
theorem dX9_lineOne_68 : decode cX9_lineOne 68 = .ok (.iaload, 1) := by decide +kernel
theorem dX9_lineOne_69 : decode cX9_lineOne 69 = .ok (.ifCond .le 5, 3) := by decide +kernel
theorem dX9_lineOne_72 : decode cX9_lineOne 72 = .ok (.iconst 1, 1) := by decide +kernel
theorem dX9_lineOne_73 : decode cX9_lineOne 73 = .ok (.ireturn, 1) := by decide +kernel
theorem dX9_lineOne_74 : decode cX9_lineOne 74 = .ok (.aload_n 0, 1) := by decide +kernel
theorem dX9_lineOne_75 : decode cX9_lineOne 75 = .ok (.iload_n 3, 1) := by decide +kernel
theorem dX9_lineOne_76 : decode cX9_lineOne 76 = .ok (.invokevirtual 152, 3) := by decide +kernel
theorem dX9_lineOne_79 : decode cX9_lineOne 79 = .ok (.ifCond .eq 5, 3) := by decide +kernel
theorem dX9_lineOne_82 : decode cX9_lineOne 82 = .ok (.iconst 2, 1) := by decide +kernel
theorem dX9_lineOne_83 : decode cX9_lineOne 83 = .ok (.ireturn, 1) := by decide +kernel
theorem dX9_lineOne_84 : decode cX9_lineOne 84 = .ok (.aload_n 0, 1) := by decide +kernel
theorem dX9_lineOne_85 : decode cX9_lineOne 85 = .ok (.iload 4, 2) := by decide +kernel
theorem dX9_lineOne_87 : decode cX9_lineOne 87 = .ok (.iconst 1, 1) := by decide +kernel
theorem dX9_lineOne_88 : decode cX9_lineOne 88 = .ok (.if_icmp .ne 7, 3) := by decide +kernel
theorem dX9_lineOne_91 : decode cX9_lineOne 91 = .ok (.iconst 1, 1) := by decide +kernel
theorem dX9_lineOne_92 : decode cX9_lineOne 92 = .ok (.goto 4, 3) := by decide +kernel
theorem dX9_lineOne_95 : decode cX9_lineOne 95 = .ok (.iconst 0, 1) := by decide +kernel
theorem dX9_lineOne_96 : decode cX9_lineOne 96 = .ok (.putfield 155, 3) := by decide +kernel
theorem dX9_lineOne_99 : decode cX9_lineOne 99 = .ok (.iload 4, 2) := by decide +kernel
theorem dX9_lineOne_101 : decode cX9_lineOne 101 = .ok (.iconst 1, 1) := by decide +kernel
theorem dX9_lineOne_102 : decode cX9_lineOne 102 = .ok (.if_icmp .ne 7, 3) := by decide +kernel
theorem dX9_lineOne_105 : decode cX9_lineOne 105 = .ok (.iconst 0, 1) := by decide +kernel
theorem dX9_lineOne_106 : decode cX9_lineOne 106 = .ok (.goto 31, 3) := by decide +kernel
theorem dX9_lineOne_109 : decode cX9_lineOne 109 = .ok (.aload_n 0, 1) := by decide +kernel
theorem dX9_lineOne_110 : decode cX9_lineOne 110 = .ok (.sipush 256, 3) := by decide +kernel
theorem dX9_lineOne_113 : decode cX9_lineOne 113 = .ok (.aload_n 0, 1) := by decide +kernel
theorem dX9_lineOne_114 : decode cX9_lineOne 114 = .ok (.getfield 30, 3) := by decide +kernel
theorem dX9_lineOne_117 : decode cX9_lineOne 117 = .ok (.iconst 1, 1) := by decide +kernel
theorem dX9_lineOne_118 : decode cX9_lineOne 118 = .ok (.iaload, 1) := by decide +kernel
theorem dX9_lineOne_119 : decode cX9_lineOne 119 = .ok (.imul, 1) := by decide +kernel
theorem dX9_lineOne_120 : decode cX9_lineOne 120 = .ok (.aload_n 0, 1) := by decide +kernel
theorem dX9_lineOne_121 : decode cX9_lineOne 121 = .ok (.getfield 30, 3) := by decide +kernel
theorem dX9_lineOne_124 : decode cX9_lineOne 124 = .ok (.iconst 2, 1) := by decide +kernel
theorem dX9_lineOne_125 : decode cX9_lineOne 125 = .ok (.iaload, 1) := by decide +kernel
theorem dX9_lineOne_126 : decode cX9_lineOne 126 = .ok (.iadd, 1) := by decide +kernel
theorem dX9_lineOne_127 : decode cX9_lineOne 127 = .ok (.iconst 4, 1) := by decide +kernel
theorem dX9_lineOne_128 : decode cX9_lineOne 128 = .ok (.aload_n 0, 1) := by decide +kernel
theorem dX9_lineOne_129 : decode cX9_lineOne 129 = .ok (.getfield 30, 3) := by decide +kernel
theorem dX9_lineOne_132 : decode cX9_lineOne 132 = .ok (.iconst 0, 1) := by decide +kernel
theorem dX9_lineOne_133 : decode cX9_lineOne 133 = .ok (.iaload, 1) := by decide +kernel
theorem dX9_lineOne_134 : decode cX9_lineOne 134 = .ok (.invokevirtual 159, 3) := by decide +kernel
theorem dX9_lineOne_137 : decode cX9_lineOne 137 = .ok (.ireturn, 1) := by decide +kernel
theorem dX9_lineTwo_0 : decode cX9_lineTwo 0 = .ok (.iload_n 2, 1) := by decide +kernel
theorem dX9_lineTwo_1 : decode cX9_lineTwo 1 = .ok (.iload_n 1, 1) := by decide +kernel
theorem dX9_lineTwo_2 : decode cX9_lineTwo 2 = .ok (.isub, 1) := by decide +kernel
theorem dX9_lineTwo_3 : decode cX9_lineTwo 3 = .ok (.iconst 1, 1) := by decide +kernel
theorem dX9_lineTwo_4 : decode cX9_lineTwo 4 = .ok (.if_icmp .le 25, 3) := by decide +kernel
theorem dX9_lineTwo_7 : decode cX9_lineTwo 7 = .ok (.aload_n 0, 1) := by decide +kernel
theorem dX9_lineTwo_8 : decode cX9_lineTwo 8 = .ok (.getfield 13, 3) := by decide +kernel
theorem dX9_lineTwo_11 : decode cX9_lineTwo 11 = .ok (.iload_n 1, 1) := by decide +kernel
theorem dX9_lineTwo_12 : decode cX9_lineTwo 12 = .ok (.iaload, 1) := by decide +kernel
theorem dX9_lineTwo_13 : decode cX9_lineTwo 13 = .ok (.bipush 83, 2) := by decide +kernel
theorem dX9_lineTwo_15 : decode cX9_lineTwo 15 = .ok (.if_icmp .ne 14, 3) := by decide +kernel
theorem dX9_lineTwo_18 : decode cX9_lineTwo 18 = .ok (.aload_n 0, 1) := by decide +kernel
theorem dX9_lineTwo_19 : decode cX9_lineTwo 19 = .ok (.getfield 13, 3) := by decide +kernel
theorem dX9_lineTwo_22 : decode cX9_lineTwo 22 = .ok (.iload_n 1, 1) := by decide +kernel
theorem dX9_lineTwo_23 : decode cX9_lineTwo 23 = .ok (.iconst 1, 1) := by decide +kernel
theorem dX9_lineTwo_24 : decode cX9_lineTwo 24 = .ok (.iadd, 1) := by decide +kernel
theorem dX9_lineTwo_25 : decode cX9_lineTwo 25 = .ok (.iaload, 1) := by decide +kernel
theorem dX9_lineTwo_26 : decode cX9_lineTwo 26 = .ok (.goto 4, 3) := by decide +kernel
theorem dX9_lineTwo_29 : decode cX9_lineTwo 29 = .ok (.iconst (-1), 1) := by decide +kernel
theorem dX9_lineTwo_30 : decode cX9_lineTwo 30 = .ok (.istore_n 3, 1) := by decide +kernel
theorem dX9_lineTwo_31 : decode cX9_lineTwo 31 = .ok (.iload_n 3, 1) := by decide +kernel
theorem dX9_lineTwo_32 : decode cX9_lineTwo 32 = .ok (.bipush 48, 2) := by decide +kernel
theorem dX9_lineTwo_34 : decode cX9_lineTwo 34 = .ok (.if_icmp .eq 15, 3) := by decide +kernel
theorem dX9_lineTwo_37 : decode cX9_lineTwo 37 = .ok (.iload_n 3, 1) := by decide +kernel
theorem dX9_lineTwo_38 : decode cX9_lineTwo 38 = .ok (.bipush 49, 2) := by decide +kernel
theorem dX9_lineTwo_40 : decode cX9_lineTwo 40 = .ok (.if_icmp .eq 9, 3) := by decide +kernel
theorem dX9_lineTwo_43 : decode cX9_lineTwo 43 = .ok (.iload_n 3, 1) := by decide +kernel
theorem dX9_lineTwo_44 : decode cX9_lineTwo 44 = .ok (.bipush 57, 2) := by decide +kernel
theorem dX9_lineTwo_46 : decode cX9_lineTwo 46 = .ok (.if_icmp .ne 14, 3) := by decide +kernel
theorem dX9_lineTwo_49 : decode cX9_lineTwo 49 = .ok (.aload_n 0, 1) := by decide +kernel
theorem dX9_lineTwo_50 : decode cX9_lineTwo 50 = .ok (.iload_n 1, 1) := by decide +kernel
theorem dX9_lineTwo_51 : decode cX9_lineTwo 51 = .ok (.iconst 2, 1) := by decide +kernel
theorem dX9_lineTwo_52 : decode cX9_lineTwo 52 = .ok (.iadd, 1) := by decide +kernel
theorem dX9_lineTwo_53 : decode cX9_lineTwo 53 = .ok (.iload_n 2, 1) := by decide +kernel
theorem dX9_lineTwo_54 : decode cX9_lineTwo 54 = .ok (.invokevirtual 148, 3) := by decide +kernel
theorem dX9_lineTwo_57 : decode cX9_lineTwo 57 = .ok (.goto 4, 3) := by decide +kernel
theorem dX9_lineTwo_60 : decode cX9_lineTwo 60 = .ok (.iconst (-1), 1) := by decide +kernel
theorem dX9_lineTwo_61 : decode cX9_lineTwo 61 = .ok (.istore 4, 2) := by decide +kernel
theorem dX9_lineTwo_63 : decode cX9_lineTwo 63 = .ok (.iload 4, 2) := by decide +kernel
theorem dX9_lineTwo_65 : decode cX9_lineTwo 65 = .ok (.iconst 4, 1) := by decide +kernel
theorem dX9_lineTwo_66 : decode cX9_lineTwo 66 = .ok (.if_icmp .lt 32, 3) := by decide +kernel
theorem dX9_lineTwo_69 : decode cX9_lineTwo 69 = .ok (.iload 4, 2) := by decide +kernel
theorem dX9_lineTwo_71 : decode cX9_lineTwo 71 = .ok (.aload_n 0, 1) := by decide +kernel
theorem dX9_lineTwo_72 : decode cX9_lineTwo 72 = .ok (.getfield 30, 3) := by decide +kernel
theorem dX9_lineTwo_75 : decode cX9_lineTwo 75 = .ok (.iconst 0, 1) := by decide +kernel
theorem dX9_lineTwo_76 : decode cX9_lineTwo 76 = .ok (.iaload, 1) := by decide +kernel
theorem dX9_lineTwo_77 : decode cX9_lineTwo 77 = .ok (.iconst 1, 1) := by decide +kernel
theorem dX9_lineTwo_78 : decode cX9_lineTwo 78 = .ok (.iadd, 1) := by decide +kernel
theorem dX9_lineTwo_79 : decode cX9_lineTwo 79 = .ok (.if_icmp .ne 19, 3) := by decide +kernel
theorem dX9_lineTwo_82 : decode cX9_lineTwo 82 = .ok (.iload_n 3, 1) := by decide +kernel
theorem dX9_lineTwo_83 : decode cX9_lineTwo 83 = .ok (.bipush 57, 2) := by decide +kernel
theorem dX9_lineTwo_85 : decode cX9_lineTwo 85 = .ok (.if_icmp .ne 15, 3) := by decide +kernel
theorem dX9_lineTwo_88 : decode cX9_lineTwo 88 = .ok (.aload_n 0, 1) := by decide +kernel
theorem dX9_lineTwo_89 : decode cX9_lineTwo 89 = .ok (.getfield 30, 3) := by decide +kernel
theorem dX9_lineTwo_92 : decode cX9_lineTwo 92 = .ok (.iconst 0, 1) := by decide +kernel
theorem dX9_lineTwo_93 : decode cX9_lineTwo 93 = .ok (.iaload, 1) := by decide +kernel
theorem dX9_lineTwo_94 : decode cX9_lineTwo 94 = .ok (.iconst 3, 1) := by decide +kernel
theorem dX9_lineTwo_95 : decode cX9_lineTwo 95 = .ok (.if_icmp .eq 5, 3) := by decide +kernel
theorem dX9_lineTwo_98 : decode cX9_lineTwo 98 = .ok (.iconst 1, 1) := by decide +kernel
theorem dX9_lineTwo_99 : decode cX9_lineTwo 99 = .ok (.ireturn, 1) := by decide +kernel
theorem dX9_lineTwo_100 : decode cX9_lineTwo 100 = .ok (.aload_n 0, 1) := by decide +kernel
theorem dX9_lineTwo_101 : decode cX9_lineTwo 101 = .ok (.iload 4, 2) := by decide +kernel
theorem dX9_lineTwo_103 : decode cX9_lineTwo 103 = .ok (.invokevirtual 152, 3) := by decide +kernel
theorem dX9_lineTwo_106 : decode cX9_lineTwo 106 = .ok (.sipush 255, 3) := by decide +kernel
theorem dX9_lineTwo_109 : decode cX9_lineTwo 109 = .ok (.if_icmp .eq 5, 3) := by decide +kernel
theorem dX9_lineTwo_112 : decode cX9_lineTwo 112 = .ok (.iconst 2, 1) := by decide +kernel
theorem dX9_lineTwo_113 : decode cX9_lineTwo 113 = .ok (.ireturn, 1) := by decide +kernel
theorem dX9_lineTwo_114 : decode cX9_lineTwo 114 = .ok (.aload_n 0, 1) := by decide +kernel
theorem dX9_lineTwo_115 : decode cX9_lineTwo 115 = .ok (.iload_n 3, 1) := by decide +kernel
theorem dX9_lineTwo_116 : decode cX9_lineTwo 116 = .ok (.bipush 57, 2) := by decide +kernel
theorem dX9_lineTwo_118 : decode cX9_lineTwo 118 = .ok (.if_icmp .ne 7, 3) := by decide +kernel
theorem dX9_lineTwo_121 : decode cX9_lineTwo 121 = .ok (.iconst 1, 1) := by decide +kernel
theorem dX9_lineTwo_122 : decode cX9_lineTwo 122 = .ok (.goto 4, 3) := by decide +kernel
theorem dX9_lineTwo_125 : decode cX9_lineTwo 125 = .ok (.iconst 0, 1) := by decide +kernel
theorem dX9_lineTwo_126 : decode cX9_lineTwo 126 = .ok (.putfield 155, 3) := by decide +kernel
theorem dX9_lineTwo_129 : decode cX9_lineTwo 129 = .ok (.iload_n 3, 1) := by decide +kernel
theorem dX9_lineTwo_130 : decode cX9_lineTwo 130 = .ok (.bipush 49, 2) := by decide +kernel
theorem dX9_lineTwo_132 : decode cX9_lineTwo 132 = .ok (.if_icmp .ne 36, 3) := by decide +kernel
theorem dX9_lineTwo_135 : decode cX9_lineTwo 135 = .ok (.aload_n 0, 1) := by decide +kernel
theorem dX9_lineTwo_136 : decode cX9_lineTwo 136 = .ok (.sipush 256, 3) := by decide +kernel
theorem dX9_lineTwo_139 : decode cX9_lineTwo 139 = .ok (.aload_n 0, 1) := by decide +kernel
theorem dX9_lineTwo_140 : decode cX9_lineTwo 140 = .ok (.getfield 30, 3) := by decide +kernel
theorem dX9_lineTwo_143 : decode cX9_lineTwo 143 = .ok (.iconst 1, 1) := by decide +kernel
theorem dX9_lineTwo_144 : decode cX9_lineTwo 144 = .ok (.iaload, 1) := by decide +kernel
theorem dX9_lineTwo_145 : decode cX9_lineTwo 145 = .ok (.imul, 1) := by decide +kernel
theorem dX9_lineTwo_146 : decode cX9_lineTwo 146 = .ok (.aload_n 0, 1) := by decide +kernel
theorem dX9_lineTwo_147 : decode cX9_lineTwo 147 = .ok (.getfield 30, 3) := by decide +kernel
theorem dX9_lineTwo_150 : decode cX9_lineTwo 150 = .ok (.iconst 2, 1) := by decide +kernel
theorem dX9_lineTwo_151 : decode cX9_lineTwo 151 = .ok (.iaload, 1) := by decide +kernel
theorem dX9_lineTwo_152 : decode cX9_lineTwo 152 = .ok (.iadd, 1) := by decide +kernel
theorem dX9_lineTwo_153 : decode cX9_lineTwo 153 = .ok (.iconst 3, 1) := by decide +kernel
theorem dX9_lineTwo_154 : decode cX9_lineTwo 154 = .ok (.aload_n 0, 1) := by decide +kernel
theorem dX9_lineTwo_155 : decode cX9_lineTwo 155 = .ok (.getfield 30, 3) := by decide +kernel
theorem dX9_lineTwo_158 : decode cX9_lineTwo 158 = .ok (.iconst 0, 1) := by decide +kernel
theorem dX9_lineTwo_159 : decode cX9_lineTwo 159 = .ok (.iaload, 1) := by decide +kernel
theorem dX9_lineTwo_160 : decode cX9_lineTwo 160 = .ok (.iconst 3, 1) := by decide +kernel
theorem dX9_lineTwo_161 : decode cX9_lineTwo 161 = .ok (.isub, 1) := by decide +kernel
theorem dX9_lineTwo_162 : decode cX9_lineTwo 162 = .ok (.invokevirtual 159, 3) := by decide +kernel
theorem dX9_lineTwo_165 : decode cX9_lineTwo 165 = .ok (.goto 4, 3) := by decide +kernel
theorem dX9_lineTwo_168 : decode cX9_lineTwo 168 = .ok (.iconst 0, 1) := by decide +kernel
theorem dX9_lineTwo_169 : decode cX9_lineTwo 169 = .ok (.ireturn, 1) := by decide +kernel
theorem dX9_data_0 : decode cX9_data 0 = .ok (.iload_n 3, 1) := by decide +kernel
theorem dX9_data_1 : decode cX9_data 1 = .ok (.ifCond .le 14, 3) := by decide +kernel
theorem dX9_data_4 : decode cX9_data 4 = .ok (.iload_n 1, 1) := by decide +kernel
theorem dX9_data_5 : decode cX9_data 5 = .ok (.iload_n 3, 1) := by decide +kernel
theorem dX9_data_6 : decode cX9_data 6 = .ok (.iadd, 1) := by decide +kernel
theorem dX9_data_7 : decode cX9_data 7 = .ok (.sipush 256, 3) := by decide +kernel
theorem dX9_data_10 : decode cX9_data 10 = .ok (.if_icmp .le 5, 3) := by decide +kernel
theorem dX9_data_13 : decode cX9_data 13 = .ok (.iconst 3, 1) := by decide +kernel
theorem dX9_data_14 : decode cX9_data 14 = .ok (.ireturn, 1) := by decide +kernel
theorem dX9_data_15 : decode cX9_data 15 = .ok (.iconst 0, 1) := by decide +kernel
theorem dX9_data_16 : decode cX9_data 16 = .ok (.istore 4, 2) := by decide +kernel
theorem dX9_data_18 : decode cX9_data 18 = .ok (.iload 4, 2) := by decide +kernel
theorem dX9_data_20 : decode cX9_data 20 = .ok (.iload_n 3, 1) := by decide +kernel
theorem dX9_data_21 : decode cX9_data 21 = .ok (.if_icmp .ge 26, 3) := by decide +kernel
theorem dX9_data_24 : decode cX9_data 24 = .ok (.aload_n 0, 1) := by decide +kernel
theorem dX9_data_25 : decode cX9_data 25 = .ok (.iload_n 1, 1) := by decide +kernel
theorem dX9_data_26 : decode cX9_data 26 = .ok (.iload 4, 2) := by decide +kernel
theorem dX9_data_28 : decode cX9_data 28 = .ok (.iadd, 1) := by decide +kernel
theorem dX9_data_29 : decode cX9_data 29 = .ok (.aload_n 0, 1) := by decide +kernel
theorem dX9_data_30 : decode cX9_data 30 = .ok (.getfield 30, 3) := by decide +kernel
theorem dX9_data_33 : decode cX9_data 33 = .ok (.iload_n 2, 1) := by decide +kernel
theorem dX9_data_34 : decode cX9_data 34 = .ok (.iload 4, 2) := by decide +kernel
theorem dX9_data_36 : decode cX9_data 36 = .ok (.iadd, 1) := by decide +kernel
theorem dX9_data_37 : decode cX9_data 37 = .ok (.iaload, 1) := by decide +kernel
theorem dX9_data_38 : decode cX9_data 38 = .ok (.invokevirtual 162, 3) := by decide +kernel
theorem dX9_data_41 : decode cX9_data 41 = .ok (.iinc 4 1, 3) := by decide +kernel
theorem dX9_data_44 : decode cX9_data 44 = .ok (.goto (-26), 3) := by decide +kernel
theorem dX9_data_47 : decode cX9_data 47 = .ok (.iconst 0, 1) := by decide +kernel
theorem dX9_data_48 : decode cX9_data 48 = .ok (.ireturn, 1) := by decide +kernel
theorem dX9_readLines_0 : decode cX9_readLines 0 = .ok (.iconst 0, 1) := by decide +kernel
theorem dX9_readLines_1 : decode cX9_readLines 1 = .ok (.istore_n 2, 1) := by decide +kernel
theorem dX9_readLines_2 : decode cX9_readLines 2 = .ok (.aload_n 0, 1) := by decide +kernel
theorem dX9_readLines_3 : decode cX9_readLines 3 = .ok (.iconst 0, 1) := by decide +kernel
theorem dX9_readLines_4 : decode cX9_readLines 4 = .ok (.putfield 155, 3) := by decide +kernel
theorem dX9_readLines_7 : decode cX9_readLines 7 = .ok (.iload_n 2, 1) := by decide +kernel
theorem dX9_readLines_8 : decode cX9_readLines 8 = .ok (.aload_n 0, 1) := by decide +kernel
theorem dX9_readLines_9 : decode cX9_readLines 9 = .ok (.getfield 130, 3) := by decide +kernel
theorem dX9_readLines_12 : decode cX9_readLines 12 = .ok (.if_icmp .ge 122, 3) := by decide +kernel
theorem dX9_readLines_15 : decode cX9_readLines 15 = .ok (.aload_n 0, 1) := by decide +kernel
theorem dX9_readLines_16 : decode cX9_readLines 16 = .ok (.getfield 155, 3) := by decide +kernel
theorem dX9_readLines_19 : decode cX9_readLines 19 = .ok (.ifCond .ne 115, 3) := by decide +kernel
theorem dX9_readLines_22 : decode cX9_readLines 22 = .ok (.iload_n 2, 1) := by decide +kernel
theorem dX9_readLines_23 : decode cX9_readLines 23 = .ok (.istore_n 3, 1) := by decide +kernel
theorem dX9_readLines_24 : decode cX9_readLines 24 = .ok (.iload_n 3, 1) := by decide +kernel
theorem dX9_readLines_25 : decode cX9_readLines 25 = .ok (.aload_n 0, 1) := by decide +kernel
theorem dX9_readLines_26 : decode cX9_readLines 26 = .ok (.getfield 130, 3) := by decide +kernel
theorem dX9_readLines_29 : decode cX9_readLines 29 = .ok (.if_icmp .ge 20, 3) := by decide +kernel
theorem dX9_readLines_32 : decode cX9_readLines 32 = .ok (.aload_n 0, 1) := by decide +kernel
theorem dX9_readLines_33 : decode cX9_readLines 33 = .ok (.getfield 13, 3) := by decide +kernel
theorem dX9_readLines_36 : decode cX9_readLines 36 = .ok (.iload_n 3, 1) := by decide +kernel
theorem dX9_readLines_37 : decode cX9_readLines 37 = .ok (.iaload, 1) := by decide +kernel
theorem dX9_readLines_38 : decode cX9_readLines 38 = .ok (.bipush 10, 2) := by decide +kernel
theorem dX9_readLines_40 : decode cX9_readLines 40 = .ok (.if_icmp .eq 9, 3) := by decide +kernel
theorem dX9_readLines_43 : decode cX9_readLines 43 = .ok (.iinc 3 1, 3) := by decide +kernel
theorem dX9_readLines_46 : decode cX9_readLines 46 = .ok (.goto (-22), 3) := by decide +kernel
theorem dX9_readLines_49 : decode cX9_readLines 49 = .ok (.iload_n 3, 1) := by decide +kernel
theorem dX9_readLines_50 : decode cX9_readLines 50 = .ok (.aload_n 0, 1) := by decide +kernel
theorem dX9_readLines_51 : decode cX9_readLines 51 = .ok (.getfield 130, 3) := by decide +kernel
theorem dX9_readLines_54 : decode cX9_readLines 54 = .ok (.if_icmp .ge 27, 3) := by decide +kernel
theorem dX9_readLines_57 : decode cX9_readLines 57 = .ok (.iload_n 3, 1) := by decide +kernel
theorem dX9_readLines_58 : decode cX9_readLines 58 = .ok (.iload_n 2, 1) := by decide +kernel
theorem dX9_readLines_59 : decode cX9_readLines 59 = .ok (.if_icmp .le 22, 3) := by decide +kernel
theorem dX9_readLines_62 : decode cX9_readLines 62 = .ok (.aload_n 0, 1) := by decide +kernel
theorem dX9_readLines_63 : decode cX9_readLines 63 = .ok (.getfield 13, 3) := by decide +kernel
theorem dX9_readLines_66 : decode cX9_readLines 66 = .ok (.iload_n 3, 1) := by decide +kernel
theorem dX9_readLines_67 : decode cX9_readLines 67 = .ok (.iconst 1, 1) := by decide +kernel
theorem dX9_readLines_68 : decode cX9_readLines 68 = .ok (.isub, 1) := by decide +kernel
theorem dX9_readLines_69 : decode cX9_readLines 69 = .ok (.iaload, 1) := by decide +kernel
theorem dX9_readLines_70 : decode cX9_readLines 70 = .ok (.bipush 13, 2) := by decide +kernel
theorem dX9_readLines_72 : decode cX9_readLines 72 = .ok (.if_icmp .ne 9, 3) := by decide +kernel
theorem dX9_readLines_75 : decode cX9_readLines 75 = .ok (.iload_n 3, 1) := by decide +kernel
theorem dX9_readLines_76 : decode cX9_readLines 76 = .ok (.iconst 1, 1) := by decide +kernel
theorem dX9_readLines_77 : decode cX9_readLines 77 = .ok (.isub, 1) := by decide +kernel
theorem dX9_readLines_78 : decode cX9_readLines 78 = .ok (.goto 4, 3) := by decide +kernel
theorem dX9_readLines_81 : decode cX9_readLines 81 = .ok (.iload_n 3, 1) := by decide +kernel
theorem dX9_readLines_82 : decode cX9_readLines 82 = .ok (.istore 4, 2) := by decide +kernel
theorem dX9_readLines_84 : decode cX9_readLines 84 = .ok (.iload 4, 2) := by decide +kernel
theorem dX9_readLines_86 : decode cX9_readLines 86 = .ok (.iload_n 2, 1) := by decide +kernel
theorem dX9_readLines_87 : decode cX9_readLines 87 = .ok (.if_icmp .le 40, 3) := by decide +kernel
theorem dX9_readLines_90 : decode cX9_readLines 90 = .ok (.aload_n 0, 1) := by decide +kernel
theorem dX9_readLines_91 : decode cX9_readLines 91 = .ok (.iload_n 2, 1) := by decide +kernel
theorem dX9_readLines_92 : decode cX9_readLines 92 = .ok (.putfield 20, 3) := by decide +kernel
theorem dX9_readLines_95 : decode cX9_readLines 95 = .ok (.iload_n 1, 1) := by decide +kernel
theorem dX9_readLines_96 : decode cX9_readLines 96 = .ok (.iconst 1, 1) := by decide +kernel
theorem dX9_readLines_97 : decode cX9_readLines 97 = .ok (.if_icmp .ne 13, 3) := by decide +kernel
theorem dX9_readLines_100 : decode cX9_readLines 100 = .ok (.aload_n 0, 1) := by decide +kernel
theorem dX9_readLines_101 : decode cX9_readLines 101 = .ok (.iload_n 2, 1) := by decide +kernel
theorem dX9_readLines_102 : decode cX9_readLines 102 = .ok (.iload 4, 2) := by decide +kernel
theorem dX9_readLines_104 : decode cX9_readLines 104 = .ok (.invokevirtual 166, 3) := by decide +kernel
theorem dX9_readLines_107 : decode cX9_readLines 107 = .ok (.goto 10, 3) := by decide +kernel
theorem dX9_readLines_110 : decode cX9_readLines 110 = .ok (.aload_n 0, 1) := by decide +kernel
theorem dX9_readLines_111 : decode cX9_readLines 111 = .ok (.iload_n 2, 1) := by decide +kernel
theorem dX9_readLines_112 : decode cX9_readLines 112 = .ok (.iload 4, 2) := by decide +kernel
theorem dX9_readLines_114 : decode cX9_readLines 114 = .ok (.invokevirtual 169, 3) := by decide +kernel
theorem dX9_readLines_117 : decode cX9_readLines 117 = .ok (.istore 5, 2) := by decide +kernel
theorem dX9_readLines_119 : decode cX9_readLines 119 = .ok (.iload 5, 2) := by decide +kernel
theorem dX9_readLines_121 : decode cX9_readLines 121 = .ok (.ifCond .eq 6, 3) := by decide +kernel
theorem dX9_readLines_124 : decode cX9_readLines 124 = .ok (.iload 5, 2) := by decide +kernel
theorem dX9_readLines_126 : decode cX9_readLines 126 = .ok (.ireturn, 1) := by decide +kernel
theorem dX9_readLines_127 : decode cX9_readLines 127 = .ok (.iload_n 3, 1) := by decide +kernel
theorem dX9_readLines_128 : decode cX9_readLines 128 = .ok (.iconst 1, 1) := by decide +kernel
theorem dX9_readLines_129 : decode cX9_readLines 129 = .ok (.iadd, 1) := by decide +kernel
theorem dX9_readLines_130 : decode cX9_readLines 130 = .ok (.istore_n 2, 1) := by decide +kernel
theorem dX9_readLines_131 : decode cX9_readLines 131 = .ok (.goto (-124), 3) := by decide +kernel
theorem dX9_readLines_134 : decode cX9_readLines 134 = .ok (.aload_n 0, 1) := by decide +kernel
theorem dX9_readLines_135 : decode cX9_readLines 135 = .ok (.aload_n 0, 1) := by decide +kernel
theorem dX9_readLines_136 : decode cX9_readLines 136 = .ok (.getfield 130, 3) := by decide +kernel
theorem dX9_readLines_139 : decode cX9_readLines 139 = .ok (.putfield 20, 3) := by decide +kernel
theorem dX9_readLines_142 : decode cX9_readLines 142 = .ok (.aload_n 0, 1) := by decide +kernel
theorem dX9_readLines_143 : decode cX9_readLines 143 = .ok (.getfield 155, 3) := by decide +kernel
theorem dX9_readLines_146 : decode cX9_readLines 146 = .ok (.ifCond .eq 7, 3) := by decide +kernel
theorem dX9_readLines_149 : decode cX9_readLines 149 = .ok (.iconst 0, 1) := by decide +kernel
theorem dX9_readLines_150 : decode cX9_readLines 150 = .ok (.goto 4, 3) := by decide +kernel
theorem dX9_readLines_153 : decode cX9_readLines 153 = .ok (.iconst 4, 1) := by decide +kernel
theorem dX9_readLines_154 : decode cX9_readLines 154 = .ok (.ireturn, 1) := by decide +kernel
theorem dX9_readPlain_0 : decode cX9_readPlain 0 = .ok (.aload_n 0, 1) := by decide +kernel
theorem dX9_readPlain_1 : decode cX9_readPlain 1 = .ok (.sipush 256, 3) := by decide +kernel
theorem dX9_readPlain_4 : decode cX9_readPlain 4 = .ok (.putfield 20, 3) := by decide +kernel
theorem dX9_readPlain_7 : decode cX9_readPlain 7 = .ok (.aload_n 0, 1) := by decide +kernel
theorem dX9_readPlain_8 : decode cX9_readPlain 8 = .ok (.getfield 130, 3) := by decide +kernel
theorem dX9_readPlain_11 : decode cX9_readPlain 11 = .ok (.sipush 256, 3) := by decide +kernel
theorem dX9_readPlain_14 : decode cX9_readPlain 14 = .ok (.if_icmp .le 5, 3) := by decide +kernel
theorem dX9_readPlain_17 : decode cX9_readPlain 17 = .ok (.iconst 5, 1) := by decide +kernel
theorem dX9_readPlain_18 : decode cX9_readPlain 18 = .ok (.ireturn, 1) := by decide +kernel
theorem dX9_readPlain_19 : decode cX9_readPlain 19 = .ok (.iconst 0, 1) := by decide +kernel
theorem dX9_readPlain_20 : decode cX9_readPlain 20 = .ok (.istore_n 1, 1) := by decide +kernel
theorem dX9_readPlain_21 : decode cX9_readPlain 21 = .ok (.iload_n 1, 1) := by decide +kernel
theorem dX9_readPlain_22 : decode cX9_readPlain 22 = .ok (.aload_n 0, 1) := by decide +kernel
theorem dX9_readPlain_23 : decode cX9_readPlain 23 = .ok (.getfield 130, 3) := by decide +kernel
theorem dX9_readPlain_26 : decode cX9_readPlain 26 = .ok (.if_icmp .ge 20, 3) := by decide +kernel
theorem dX9_readPlain_29 : decode cX9_readPlain 29 = .ok (.aload_n 0, 1) := by decide +kernel
theorem dX9_readPlain_30 : decode cX9_readPlain 30 = .ok (.iload_n 1, 1) := by decide +kernel
theorem dX9_readPlain_31 : decode cX9_readPlain 31 = .ok (.aload_n 0, 1) := by decide +kernel
theorem dX9_readPlain_32 : decode cX9_readPlain 32 = .ok (.getfield 13, 3) := by decide +kernel
theorem dX9_readPlain_35 : decode cX9_readPlain 35 = .ok (.iload_n 1, 1) := by decide +kernel
theorem dX9_readPlain_36 : decode cX9_readPlain 36 = .ok (.iaload, 1) := by decide +kernel
theorem dX9_readPlain_37 : decode cX9_readPlain 37 = .ok (.invokevirtual 162, 3) := by decide +kernel
theorem dX9_readPlain_40 : decode cX9_readPlain 40 = .ok (.iinc 1 1, 3) := by decide +kernel
theorem dX9_readPlain_43 : decode cX9_readPlain 43 = .ok (.goto (-22), 3) := by decide +kernel
theorem dX9_readPlain_46 : decode cX9_readPlain 46 = .ok (.iconst 0, 1) := by decide +kernel
theorem dX9_readPlain_47 : decode cX9_readPlain 47 = .ok (.ireturn, 1) := by decide +kernel
theorem dX9_file_0 : decode cX9_file 0 = .ok (.iload_n 1, 1) := by decide +kernel
theorem dX9_file_1 : decode cX9_file 1 = .ok (.iconst 0, 1) := by decide +kernel
theorem dX9_file_2 : decode cX9_file 2 = .ok (.iconst 2, 1) := by decide +kernel
theorem dX9_file_3 : decode cX9_file 3 = .ok (.invokestatic 137, 3) := by decide +kernel
theorem dX9_file_6 : decode cX9_file 6 = .ok (.ifCond .ne 5, 3) := by decide +kernel
theorem dX9_file_9 : decode cX9_file 9 = .ok (.iconst (-1), 1) := by decide +kernel
theorem dX9_file_10 : decode cX9_file 10 = .ok (.ireturn, 1) := by decide +kernel
theorem dX9_file_11 : decode cX9_file 11 = .ok (.iconst 0, 1) := by decide +kernel
theorem dX9_file_12 : decode cX9_file 12 = .ok (.istore_n 2, 1) := by decide +kernel
theorem dX9_file_13 : decode cX9_file 13 = .ok (.iload_n 2, 1) := by decide +kernel
theorem dX9_file_14 : decode cX9_file 14 = .ok (.sipush 256, 3) := by decide +kernel
theorem dX9_file_17 : decode cX9_file 17 = .ok (.if_icmp .ge 16, 3) := by decide +kernel
theorem dX9_file_20 : decode cX9_file 20 = .ok (.aload_n 0, 1) := by decide +kernel
theorem dX9_file_21 : decode cX9_file 21 = .ok (.getfield 26, 3) := by decide +kernel
theorem dX9_file_24 : decode cX9_file 24 = .ok (.iload_n 2, 1) := by decide +kernel
theorem dX9_file_25 : decode cX9_file 25 = .ok (.iconst 0, 1) := by decide +kernel
theorem dX9_file_26 : decode cX9_file 26 = .ok (.bastore, 1) := by decide +kernel
theorem dX9_file_27 : decode cX9_file 27 = .ok (.iinc 2 1, 3) := by decide +kernel
theorem dX9_file_30 : decode cX9_file 30 = .ok (.goto (-17), 3) := by decide +kernel
theorem dX9_file_33 : decode cX9_file 33 = .ok (.aload_n 0, 1) := by decide +kernel
theorem dX9_file_34 : decode cX9_file 34 = .ok (.iconst 0, 1) := by decide +kernel
theorem dX9_file_35 : decode cX9_file 35 = .ok (.putfield 145, 3) := by decide +kernel
theorem dX9_file_38 : decode cX9_file 38 = .ok (.aload_n 0, 1) := by decide +kernel
theorem dX9_file_39 : decode cX9_file 39 = .ok (.iload_n 1, 1) := by decide +kernel
theorem dX9_file_40 : decode cX9_file 40 = .ok (.ifCond .ne 10, 3) := by decide +kernel
theorem dX9_file_43 : decode cX9_file 43 = .ok (.aload_n 0, 1) := by decide +kernel
theorem dX9_file_44 : decode cX9_file 44 = .ok (.invokevirtual 172, 3) := by decide +kernel
theorem dX9_file_47 : decode cX9_file 47 = .ok (.goto 8, 3) := by decide +kernel
theorem dX9_file_50 : decode cX9_file 50 = .ok (.aload_n 0, 1) := by decide +kernel
theorem dX9_file_51 : decode cX9_file 51 = .ok (.iload_n 1, 1) := by decide +kernel
theorem dX9_file_52 : decode cX9_file 52 = .ok (.invokevirtual 176, 3) := by decide +kernel
theorem dX9_file_55 : decode cX9_file 55 = .ok (.putfield 16, 3) := by decide +kernel
theorem dX9_file_58 : decode cX9_file 58 = .ok (.aload_n 0, 1) := by decide +kernel
theorem dX9_file_59 : decode cX9_file 59 = .ok (.iconst 0, 1) := by decide +kernel
theorem dX9_file_60 : decode cX9_file 60 = .ok (.putfield 130, 3) := by decide +kernel
theorem dX9_file_63 : decode cX9_file 63 = .ok (.aload_n 0, 1) := by decide +kernel
theorem dX9_file_64 : decode cX9_file 64 = .ok (.getfield 16, 3) := by decide +kernel
theorem dX9_file_67 : decode cX9_file 67 = .ok (.ifCond .eq 5, 3) := by decide +kernel
theorem dX9_file_70 : decode cX9_file 70 = .ok (.iconst (-1), 1) := by decide +kernel
theorem dX9_file_71 : decode cX9_file 71 = .ok (.ireturn, 1) := by decide +kernel
theorem dX9_file_72 : decode cX9_file 72 = .ok (.aload_n 0, 1) := by decide +kernel
theorem dX9_file_73 : decode cX9_file 73 = .ok (.iconst (-1), 1) := by decide +kernel
theorem dX9_file_74 : decode cX9_file 74 = .ok (.putfield 20, 3) := by decide +kernel
theorem dX9_file_77 : decode cX9_file 77 = .ok (.iconst 0, 1) := by decide +kernel
theorem dX9_file_78 : decode cX9_file 78 = .ok (.istore_n 2, 1) := by decide +kernel
theorem dX9_file_79 : decode cX9_file 79 = .ok (.iload_n 2, 1) := by decide +kernel
theorem dX9_file_80 : decode cX9_file 80 = .ok (.sipush 256, 3) := by decide +kernel
theorem dX9_file_83 : decode cX9_file 83 = .ok (.if_icmp .ge 39, 3) := by decide +kernel
theorem dX9_file_86 : decode cX9_file 86 = .ok (.aload_n 0, 1) := by decide +kernel
theorem dX9_file_87 : decode cX9_file 87 = .ok (.getfield 7, 3) := by decide +kernel
theorem dX9_file_90 : decode cX9_file 90 = .ok (.iload_n 2, 1) := by decide +kernel
theorem dX9_file_91 : decode cX9_file 91 = .ok (.aload_n 0, 1) := by decide +kernel
theorem dX9_file_92 : decode cX9_file 92 = .ok (.getfield 26, 3) := by decide +kernel
theorem dX9_file_95 : decode cX9_file 95 = .ok (.iload_n 2, 1) := by decide +kernel
theorem dX9_file_96 : decode cX9_file 96 = .ok (.baload, 1) := by decide +kernel
theorem dX9_file_97 : decode cX9_file 97 = .ok (.ifCond .eq 12, 3) := by decide +kernel
theorem dX9_file_100 : decode cX9_file 100 = .ok (.aload_n 0, 1) := by decide +kernel
theorem dX9_file_101 : decode cX9_file 101 = .ok (.getfield 23, 3) := by decide +kernel
theorem dX9_file_104 : decode cX9_file 104 = .ok (.iload_n 2, 1) := by decide +kernel
theorem dX9_file_105 : decode cX9_file 105 = .ok (.iaload, 1) := by decide +kernel
theorem dX9_file_106 : decode cX9_file 106 = .ok (.goto 9, 3) := by decide +kernel
theorem dX9_file_109 : decode cX9_file 109 = .ok (.aload_n 0, 1) := by decide +kernel
theorem dX9_file_110 : decode cX9_file 110 = .ok (.getfield 7, 3) := by decide +kernel
theorem dX9_file_113 : decode cX9_file 113 = .ok (.iload_n 2, 1) := by decide +kernel
theorem dX9_file_114 : decode cX9_file 114 = .ok (.iaload, 1) := by decide +kernel
theorem dX9_file_115 : decode cX9_file 115 = .ok (.iastore, 1) := by decide +kernel
theorem dX9_file_116 : decode cX9_file 116 = .ok (.iinc 2 1, 3) := by decide +kernel
theorem dX9_file_119 : decode cX9_file 119 = .ok (.goto (-40), 3) := by decide +kernel
theorem dX9_file_122 : decode cX9_file 122 = .ok (.aload_n 0, 1) := by decide +kernel
theorem dX9_file_123 : decode cX9_file 123 = .ok (.dup, 1) := by decide +kernel
theorem dX9_file_124 : decode cX9_file 124 = .ok (.getfield 179, 3) := by decide +kernel
theorem dX9_file_127 : decode cX9_file 127 = .ok (.aload_n 0, 1) := by decide +kernel
theorem dX9_file_128 : decode cX9_file 128 = .ok (.getfield 145, 3) := by decide +kernel
theorem dX9_file_131 : decode cX9_file 131 = .ok (.i2l, 1) := by decide +kernel
theorem dX9_file_132 : decode cX9_file 132 = .ok (.ladd, 1) := by decide +kernel
theorem dX9_file_133 : decode cX9_file 133 = .ok (.putfield 179, 3) := by decide +kernel
theorem dX9_file_136 : decode cX9_file 136 = .ok (.aload_n 0, 1) := by decide +kernel
theorem dX9_file_137 : decode cX9_file 137 = .ok (.getfield 145, 3) := by decide +kernel
theorem dX9_file_140 : decode cX9_file 140 = .ok (.ireturn, 1) := by decide +kernel
theorem dX9_fault_0 : decode cX9_fault 0 = .ok (.iload_n 1, 1) := by decide +kernel
theorem dX9_fault_1 : decode cX9_fault 1 = .ok (.ifCond .ne 10, 3) := by decide +kernel
theorem dX9_fault_4 : decode cX9_fault 4 = .ok (.aload_n 0, 1) := by decide +kernel
theorem dX9_fault_5 : decode cX9_fault 5 = .ok (.getfield 16, 3) := by decide +kernel
theorem dX9_fault_8 : decode cX9_fault 8 = .ok (.goto 16, 3) := by decide +kernel
theorem dX9_fault_11 : decode cX9_fault 11 = .ok (.iload_n 1, 1) := by decide +kernel
theorem dX9_fault_12 : decode cX9_fault 12 = .ok (.iconst 1, 1) := by decide +kernel
theorem dX9_fault_13 : decode cX9_fault 13 = .ok (.if_icmp .ne 10, 3) := by decide +kernel
theorem dX9_fault_16 : decode cX9_fault 16 = .ok (.aload_n 0, 1) := by decide +kernel
theorem dX9_fault_17 : decode cX9_fault 17 = .ok (.getfield 20, 3) := by decide +kernel
theorem dX9_fault_20 : decode cX9_fault 20 = .ok (.goto 4, 3) := by decide +kernel
theorem dX9_fault_23 : decode cX9_fault 23 = .ok (.iconst (-1), 1) := by decide +kernel
theorem dX9_fault_24 : decode cX9_fault 24 = .ok (.ireturn, 1) := by decide +kernel
theorem dX9_writeSign_0 : decode cX9_writeSign 0 = .ok (.aload_n 0, 1) := by decide +kernel
theorem dX9_writeSign_1 : decode cX9_writeSign 1 = .ok (.getfield 13, 3) := by decide +kernel
theorem dX9_writeSign_4 : decode cX9_writeSign 4 = .ok (.aload_n 0, 1) := by decide +kernel
theorem dX9_writeSign_5 : decode cX9_writeSign 5 = .ok (.getfield 130, 3) := by decide +kernel
theorem dX9_writeSign_8 : decode cX9_writeSign 8 = .ok (.iload_n 1, 1) := by decide +kernel
theorem dX9_writeSign_9 : decode cX9_writeSign 9 = .ok (.iastore, 1) := by decide +kernel
theorem dX9_writeSign_10 : decode cX9_writeSign 10 = .ok (.aload_n 0, 1) := by decide +kernel
theorem dX9_writeSign_11 : decode cX9_writeSign 11 = .ok (.dup, 1) := by decide +kernel
theorem dX9_writeSign_12 : decode cX9_writeSign 12 = .ok (.getfield 130, 3) := by decide +kernel
theorem dX9_writeSign_15 : decode cX9_writeSign 15 = .ok (.iconst 1, 1) := by decide +kernel
theorem dX9_writeSign_16 : decode cX9_writeSign 16 = .ok (.iadd, 1) := by decide +kernel
theorem dX9_writeSign_17 : decode cX9_writeSign 17 = .ok (.putfield 130, 3) := by decide +kernel
theorem dX9_writeSign_20 : decode cX9_writeSign 20 = .ok (.return_, 1) := by decide +kernel
theorem dX9_writeByte_0 : decode cX9_writeByte 0 = .ok (.iconst 4, 1) := by decide +kernel
theorem dX9_writeByte_1 : decode cX9_writeByte 1 = .ok (.istore_n 2, 1) := by decide +kernel
theorem dX9_writeByte_2 : decode cX9_writeByte 2 = .ok (.iload_n 2, 1) := by decide +kernel
theorem dX9_writeByte_3 : decode cX9_writeByte 3 = .ok (.ifCond .lt 40, 3) := by decide +kernel
theorem dX9_writeByte_6 : decode cX9_writeByte 6 = .ok (.iload_n 1, 1) := by decide +kernel
theorem dX9_writeByte_7 : decode cX9_writeByte 7 = .ok (.iload_n 2, 1) := by decide +kernel
theorem dX9_writeByte_8 : decode cX9_writeByte 8 = .ok (.ishr, 1) := by decide +kernel
theorem dX9_writeByte_9 : decode cX9_writeByte 9 = .ok (.bipush 15, 2) := by decide +kernel
theorem dX9_writeByte_11 : decode cX9_writeByte 11 = .ok (.iand, 1) := by decide +kernel
theorem dX9_writeByte_12 : decode cX9_writeByte 12 = .ok (.istore_n 3, 1) := by decide +kernel
theorem dX9_writeByte_13 : decode cX9_writeByte 13 = .ok (.aload_n 0, 1) := by decide +kernel
theorem dX9_writeByte_14 : decode cX9_writeByte 14 = .ok (.iload_n 3, 1) := by decide +kernel
theorem dX9_writeByte_15 : decode cX9_writeByte 15 = .ok (.bipush 10, 2) := by decide +kernel
theorem dX9_writeByte_17 : decode cX9_writeByte 17 = .ok (.if_icmp .ge 10, 3) := by decide +kernel
theorem dX9_writeByte_20 : decode cX9_writeByte 20 = .ok (.bipush 48, 2) := by decide +kernel
theorem dX9_writeByte_22 : decode cX9_writeByte 22 = .ok (.iload_n 3, 1) := by decide +kernel
theorem dX9_writeByte_23 : decode cX9_writeByte 23 = .ok (.iadd, 1) := by decide +kernel
theorem dX9_writeByte_24 : decode cX9_writeByte 24 = .ok (.goto 10, 3) := by decide +kernel
theorem dX9_writeByte_27 : decode cX9_writeByte 27 = .ok (.bipush 65, 2) := by decide +kernel
theorem dX9_writeByte_29 : decode cX9_writeByte 29 = .ok (.iload_n 3, 1) := by decide +kernel
theorem dX9_writeByte_30 : decode cX9_writeByte 30 = .ok (.iadd, 1) := by decide +kernel
theorem dX9_writeByte_31 : decode cX9_writeByte 31 = .ok (.bipush 10, 2) := by decide +kernel
theorem dX9_writeByte_33 : decode cX9_writeByte 33 = .ok (.isub, 1) := by decide +kernel
theorem dX9_writeByte_34 : decode cX9_writeByte 34 = .ok (.invokevirtual 183, 3) := by decide +kernel
theorem dX9_writeByte_37 : decode cX9_writeByte 37 = .ok (.iinc 2 (-4), 3) := by decide +kernel
theorem dX9_writeByte_40 : decode cX9_writeByte 40 = .ok (.goto (-38), 3) := by decide +kernel
theorem dX9_writeByte_43 : decode cX9_writeByte 43 = .ok (.aload_n 0, 1) := by decide +kernel
theorem dX9_writeByte_44 : decode cX9_writeByte 44 = .ok (.dup, 1) := by decide +kernel
theorem dX9_writeByte_45 : decode cX9_writeByte 45 = .ok (.getfield 186, 3) := by decide +kernel
theorem dX9_writeByte_48 : decode cX9_writeByte 48 = .ok (.iload_n 1, 1) := by decide +kernel
theorem dX9_writeByte_49 : decode cX9_writeByte 49 = .ok (.iadd, 1) := by decide +kernel
theorem dX9_writeByte_50 : decode cX9_writeByte 50 = .ok (.putfield 186, 3) := by decide +kernel
theorem dX9_writeByte_53 : decode cX9_writeByte 53 = .ok (.return_, 1) := by decide +kernel
theorem dX9_writeLine_0 : decode cX9_writeLine 0 = .ok (.aload_n 0, 1) := by decide +kernel
theorem dX9_writeLine_1 : decode cX9_writeLine 1 = .ok (.iconst 0, 1) := by decide +kernel
theorem dX9_writeLine_2 : decode cX9_writeLine 2 = .ok (.putfield 186, 3) := by decide +kernel
theorem dX9_writeLine_5 : decode cX9_writeLine 5 = .ok (.aload_n 0, 1) := by decide +kernel
theorem dX9_writeLine_6 : decode cX9_writeLine 6 = .ok (.iload_n 1, 1) := by decide +kernel
theorem dX9_writeLine_7 : decode cX9_writeLine 7 = .ok (.iconst 1, 1) := by decide +kernel
theorem dX9_writeLine_8 : decode cX9_writeLine 8 = .ok (.if_icmp .ne 8, 3) := by decide +kernel
theorem dX9_writeLine_11 : decode cX9_writeLine 11 = .ok (.bipush 58, 2) := by decide +kernel
theorem dX9_writeLine_13 : decode cX9_writeLine 13 = .ok (.goto 5, 3) := by decide +kernel
theorem dX9_writeLine_16 : decode cX9_writeLine 16 = .ok (.bipush 83, 2) := by decide +kernel
theorem dX9_writeLine_18 : decode cX9_writeLine 18 = .ok (.invokevirtual 183, 3) := by decide +kernel
theorem dX9_writeLine_21 : decode cX9_writeLine 21 = .ok (.iload_n 1, 1) := by decide +kernel
theorem dX9_writeLine_22 : decode cX9_writeLine 22 = .ok (.iconst 2, 1) := by decide +kernel
theorem dX9_writeLine_23 : decode cX9_writeLine 23 = .ok (.if_icmp .ne 11, 3) := by decide +kernel
theorem dX9_writeLine_26 : decode cX9_writeLine 26 = .ok (.aload_n 0, 1) := by decide +kernel
theorem dX9_writeLine_27 : decode cX9_writeLine 27 = .ok (.bipush 48, 2) := by decide +kernel
theorem dX9_writeLine_29 : decode cX9_writeLine 29 = .ok (.iload_n 2, 1) := by decide +kernel
theorem dX9_writeLine_30 : decode cX9_writeLine 30 = .ok (.iadd, 1) := by decide +kernel
theorem dX9_writeLine_31 : decode cX9_writeLine 31 = .ok (.invokevirtual 183, 3) := by decide +kernel
theorem dX9_writeLine_34 : decode cX9_writeLine 34 = .ok (.aload_n 0, 1) := by decide +kernel
theorem dX9_writeLine_35 : decode cX9_writeLine 35 = .ok (.iload_n 1, 1) := by decide +kernel
theorem dX9_writeLine_36 : decode cX9_writeLine 36 = .ok (.iconst 1, 1) := by decide +kernel
theorem dX9_writeLine_37 : decode cX9_writeLine 37 = .ok (.if_icmp .ne 8, 3) := by decide +kernel
theorem dX9_writeLine_40 : decode cX9_writeLine 40 = .ok (.iload 4, 2) := by decide +kernel
theorem dX9_writeLine_42 : decode cX9_writeLine 42 = .ok (.goto 7, 3) := by decide +kernel
theorem dX9_writeLine_45 : decode cX9_writeLine 45 = .ok (.iload 4, 2) := by decide +kernel
theorem dX9_writeLine_47 : decode cX9_writeLine 47 = .ok (.iconst 3, 1) := by decide +kernel
theorem dX9_writeLine_48 : decode cX9_writeLine 48 = .ok (.iadd, 1) := by decide +kernel
theorem dX9_writeLine_49 : decode cX9_writeLine 49 = .ok (.invokevirtual 189, 3) := by decide +kernel
theorem dX9_writeLine_52 : decode cX9_writeLine 52 = .ok (.aload_n 0, 1) := by decide +kernel
theorem dX9_writeLine_53 : decode cX9_writeLine 53 = .ok (.iload_n 3, 1) := by decide +kernel
theorem dX9_writeLine_54 : decode cX9_writeLine 54 = .ok (.sipush 256, 3) := by decide +kernel
theorem dX9_writeLine_57 : decode cX9_writeLine 57 = .ok (.idiv, 1) := by decide +kernel
theorem dX9_writeLine_58 : decode cX9_writeLine 58 = .ok (.invokevirtual 189, 3) := by decide +kernel
theorem dX9_writeLine_61 : decode cX9_writeLine 61 = .ok (.aload_n 0, 1) := by decide +kernel
theorem dX9_writeLine_62 : decode cX9_writeLine 62 = .ok (.iload_n 3, 1) := by decide +kernel
theorem dX9_writeLine_63 : decode cX9_writeLine 63 = .ok (.sipush 256, 3) := by decide +kernel
theorem dX9_writeLine_66 : decode cX9_writeLine 66 = .ok (.irem, 1) := by decide +kernel
theorem dX9_writeLine_67 : decode cX9_writeLine 67 = .ok (.invokevirtual 189, 3) := by decide +kernel
theorem dX9_writeLine_70 : decode cX9_writeLine 70 = .ok (.iload_n 1, 1) := by decide +kernel
theorem dX9_writeLine_71 : decode cX9_writeLine 71 = .ok (.iconst 1, 1) := by decide +kernel
theorem dX9_writeLine_72 : decode cX9_writeLine 72 = .ok (.if_icmp .ne 8, 3) := by decide +kernel
theorem dX9_writeLine_75 : decode cX9_writeLine 75 = .ok (.aload_n 0, 1) := by decide +kernel
theorem dX9_writeLine_76 : decode cX9_writeLine 76 = .ok (.iload_n 2, 1) := by decide +kernel
theorem dX9_writeLine_77 : decode cX9_writeLine 77 = .ok (.invokevirtual 189, 3) := by decide +kernel
theorem dX9_writeLine_80 : decode cX9_writeLine 80 = .ok (.iconst 0, 1) := by decide +kernel
theorem dX9_writeLine_81 : decode cX9_writeLine 81 = .ok (.istore 5, 2) := by decide +kernel
theorem dX9_writeLine_83 : decode cX9_writeLine 83 = .ok (.iload 5, 2) := by decide +kernel
theorem dX9_writeLine_85 : decode cX9_writeLine 85 = .ok (.iload 4, 2) := by decide +kernel
theorem dX9_writeLine_87 : decode cX9_writeLine 87 = .ok (.if_icmp .ge 22, 3) := by decide +kernel
theorem dX9_writeLine_90 : decode cX9_writeLine 90 = .ok (.aload_n 0, 1) := by decide +kernel
theorem dX9_writeLine_91 : decode cX9_writeLine 91 = .ok (.aload_n 0, 1) := by decide +kernel
theorem dX9_writeLine_92 : decode cX9_writeLine 92 = .ok (.getfield 7, 3) := by decide +kernel
theorem dX9_writeLine_95 : decode cX9_writeLine 95 = .ok (.iload_n 3, 1) := by decide +kernel
theorem dX9_writeLine_96 : decode cX9_writeLine 96 = .ok (.iload 5, 2) := by decide +kernel
theorem dX9_writeLine_98 : decode cX9_writeLine 98 = .ok (.iadd, 1) := by decide +kernel
theorem dX9_writeLine_99 : decode cX9_writeLine 99 = .ok (.iaload, 1) := by decide +kernel
theorem dX9_writeLine_100 : decode cX9_writeLine 100 = .ok (.invokevirtual 189, 3) := by decide +kernel
theorem dX9_writeLine_103 : decode cX9_writeLine 103 = .ok (.iinc 5 1, 3) := by decide +kernel
theorem dX9_writeLine_106 : decode cX9_writeLine 106 = .ok (.goto (-23), 3) := by decide +kernel
theorem dX9_writeLine_109 : decode cX9_writeLine 109 = .ok (.aload_n 0, 1) := by decide +kernel
theorem dX9_writeLine_110 : decode cX9_writeLine 110 = .ok (.iload_n 1, 1) := by decide +kernel
theorem dX9_writeLine_111 : decode cX9_writeLine 111 = .ok (.iconst 1, 1) := by decide +kernel
theorem dX9_writeLine_112 : decode cX9_writeLine 112 = .ok (.if_icmp .ne 18, 3) := by decide +kernel
theorem dX9_writeLine_115 : decode cX9_writeLine 115 = .ok (.sipush 256, 3) := by decide +kernel
theorem dX9_writeLine_118 : decode cX9_writeLine 118 = .ok (.aload_n 0, 1) := by decide +kernel
theorem dX9_writeLine_119 : decode cX9_writeLine 119 = .ok (.getfield 186, 3) := by decide +kernel
theorem dX9_writeLine_122 : decode cX9_writeLine 122 = .ok (.sipush 256, 3) := by decide +kernel
theorem dX9_writeLine_125 : decode cX9_writeLine 125 = .ok (.irem, 1) := by decide +kernel
theorem dX9_writeLine_126 : decode cX9_writeLine 126 = .ok (.isub, 1) := by decide +kernel
theorem dX9_writeLine_127 : decode cX9_writeLine 127 = .ok (.goto 15, 3) := by decide +kernel
theorem dX9_writeLine_130 : decode cX9_writeLine 130 = .ok (.sipush 255, 3) := by decide +kernel
theorem dX9_writeLine_133 : decode cX9_writeLine 133 = .ok (.aload_n 0, 1) := by decide +kernel
theorem dX9_writeLine_134 : decode cX9_writeLine 134 = .ok (.getfield 186, 3) := by decide +kernel
theorem dX9_writeLine_137 : decode cX9_writeLine 137 = .ok (.sipush 256, 3) := by decide +kernel
theorem dX9_writeLine_140 : decode cX9_writeLine 140 = .ok (.irem, 1) := by decide +kernel
theorem dX9_writeLine_141 : decode cX9_writeLine 141 = .ok (.isub, 1) := by decide +kernel
theorem dX9_writeLine_142 : decode cX9_writeLine 142 = .ok (.sipush 256, 3) := by decide +kernel
theorem dX9_writeLine_145 : decode cX9_writeLine 145 = .ok (.irem, 1) := by decide +kernel
theorem dX9_writeLine_146 : decode cX9_writeLine 146 = .ok (.invokevirtual 189, 3) := by decide +kernel
theorem dX9_writeLine_149 : decode cX9_writeLine 149 = .ok (.aload_n 0, 1) := by decide +kernel
theorem dX9_writeLine_150 : decode cX9_writeLine 150 = .ok (.bipush 10, 2) := by decide +kernel
theorem dX9_writeLine_152 : decode cX9_writeLine 152 = .ok (.invokevirtual 183, 3) := by decide +kernel
theorem dX9_writeLine_155 : decode cX9_writeLine 155 = .ok (.return_, 1) := by decide +kernel
theorem dX9_write_0 : decode cX9_write 0 = .ok (.iload_n 1, 1) := by decide +kernel
theorem dX9_write_1 : decode cX9_write 1 = .ok (.iconst 1, 1) := by decide +kernel
theorem dX9_write_2 : decode cX9_write 2 = .ok (.iconst 2, 1) := by decide +kernel
theorem dX9_write_3 : decode cX9_write 3 = .ok (.invokestatic 137, 3) := by decide +kernel
theorem dX9_write_6 : decode cX9_write 6 = .ok (.ifCond .eq 25, 3) := by decide +kernel
theorem dX9_write_9 : decode cX9_write 9 = .ok (.iload_n 2, 1) := by decide +kernel
theorem dX9_write_10 : decode cX9_write 10 = .ok (.iconst 0, 1) := by decide +kernel
theorem dX9_write_11 : decode cX9_write 11 = .ok (.sipush 255, 3) := by decide +kernel
theorem dX9_write_14 : decode cX9_write 14 = .ok (.invokestatic 137, 3) := by decide +kernel
theorem dX9_write_17 : decode cX9_write 17 = .ok (.ifCond .eq 14, 3) := by decide +kernel
theorem dX9_write_20 : decode cX9_write 20 = .ok (.iload_n 3, 1) := by decide +kernel
theorem dX9_write_21 : decode cX9_write 21 = .ok (.iload_n 2, 1) := by decide +kernel
theorem dX9_write_22 : decode cX9_write 22 = .ok (.sipush 255, 3) := by decide +kernel
theorem dX9_write_25 : decode cX9_write 25 = .ok (.invokestatic 137, 3) := by decide +kernel
theorem dX9_write_28 : decode cX9_write 28 = .ok (.ifCond .ne 5, 3) := by decide +kernel
theorem dX9_write_31 : decode cX9_write 31 = .ok (.iconst (-1), 1) := by decide +kernel
theorem dX9_write_32 : decode cX9_write 32 = .ok (.ireturn, 1) := by decide +kernel
theorem dX9_write_33 : decode cX9_write 33 = .ok (.iload_n 3, 1) := by decide +kernel
theorem dX9_write_34 : decode cX9_write 34 = .ok (.iload_n 2, 1) := by decide +kernel
theorem dX9_write_35 : decode cX9_write 35 = .ok (.isub, 1) := by decide +kernel
theorem dX9_write_36 : decode cX9_write 36 = .ok (.iconst 1, 1) := by decide +kernel
theorem dX9_write_37 : decode cX9_write 37 = .ok (.iadd, 1) := by decide +kernel
theorem dX9_write_38 : decode cX9_write 38 = .ok (.istore 4, 2) := by decide +kernel
theorem dX9_write_40 : decode cX9_write 40 = .ok (.iload 4, 2) := by decide +kernel
theorem dX9_write_42 : decode cX9_write 42 = .ok (.bipush 15, 2) := by decide +kernel
theorem dX9_write_44 : decode cX9_write 44 = .ok (.iadd, 1) := by decide +kernel
theorem dX9_write_45 : decode cX9_write 45 = .ok (.bipush 16, 2) := by decide +kernel
theorem dX9_write_47 : decode cX9_write 47 = .ok (.idiv, 1) := by decide +kernel
theorem dX9_write_48 : decode cX9_write 48 = .ok (.istore 5, 2) := by decide +kernel
theorem dX9_write_50 : decode cX9_write 50 = .ok (.iconst 2, 1) := by decide +kernel
theorem dX9_write_51 : decode cX9_write 51 = .ok (.iload 4, 2) := by decide +kernel
theorem dX9_write_53 : decode cX9_write 53 = .ok (.imul, 1) := by decide +kernel
theorem dX9_write_54 : decode cX9_write 54 = .ok (.iload 5, 2) := by decide +kernel
theorem dX9_write_56 : decode cX9_write 56 = .ok (.iload_n 1, 1) := by decide +kernel
theorem dX9_write_57 : decode cX9_write 57 = .ok (.iconst 1, 1) := by decide +kernel
theorem dX9_write_58 : decode cX9_write 58 = .ok (.if_icmp .ne 8, 3) := by decide +kernel
theorem dX9_write_61 : decode cX9_write 61 = .ok (.bipush 12, 2) := by decide +kernel
theorem dX9_write_63 : decode cX9_write 63 = .ok (.goto 5, 3) := by decide +kernel
theorem dX9_write_66 : decode cX9_write 66 = .ok (.bipush 11, 2) := by decide +kernel
theorem dX9_write_68 : decode cX9_write 68 = .ok (.imul, 1) := by decide +kernel
theorem dX9_write_69 : decode cX9_write 69 = .ok (.iadd, 1) := by decide +kernel
theorem dX9_write_70 : decode cX9_write 70 = .ok (.iload_n 1, 1) := by decide +kernel
theorem dX9_write_71 : decode cX9_write 71 = .ok (.iconst 1, 1) := by decide +kernel
theorem dX9_write_72 : decode cX9_write 72 = .ok (.if_icmp .ne 8, 3) := by decide +kernel
theorem dX9_write_75 : decode cX9_write 75 = .ok (.bipush 12, 2) := by decide +kernel
theorem dX9_write_77 : decode cX9_write 77 = .ok (.goto 5, 3) := by decide +kernel
theorem dX9_write_80 : decode cX9_write 80 = .ok (.bipush 11, 2) := by decide +kernel
theorem dX9_write_82 : decode cX9_write 82 = .ok (.iadd, 1) := by decide +kernel
theorem dX9_write_83 : decode cX9_write 83 = .ok (.istore 6, 2) := by decide +kernel
theorem dX9_write_85 : decode cX9_write 85 = .ok (.iload 6, 2) := by decide +kernel
theorem dX9_write_87 : decode cX9_write 87 = .ok (.sipush 400, 3) := by decide +kernel
theorem dX9_write_90 : decode cX9_write 90 = .ok (.if_icmp .le 5, 3) := by decide +kernel
theorem dX9_write_93 : decode cX9_write 93 = .ok (.iconst (-1), 1) := by decide +kernel
theorem dX9_write_94 : decode cX9_write 94 = .ok (.ireturn, 1) := by decide +kernel
theorem dX9_write_95 : decode cX9_write 95 = .ok (.aload_n 0, 1) := by decide +kernel
theorem dX9_write_96 : decode cX9_write 96 = .ok (.iconst 0, 1) := by decide +kernel
theorem dX9_write_97 : decode cX9_write 97 = .ok (.putfield 130, 3) := by decide +kernel
theorem dX9_write_100 : decode cX9_write 100 = .ok (.iload_n 2, 1) := by decide +kernel
theorem dX9_write_101 : decode cX9_write 101 = .ok (.istore 7, 2) := by decide +kernel
theorem dX9_write_103 : decode cX9_write 103 = .ok (.iload 7, 2) := by decide +kernel
theorem dX9_write_105 : decode cX9_write 105 = .ok (.iload_n 3, 1) := by decide +kernel
theorem dX9_write_106 : decode cX9_write 106 = .ok (.if_icmp .gt 46, 3) := by decide +kernel
theorem dX9_write_109 : decode cX9_write 109 = .ok (.aload_n 0, 1) := by decide +kernel
theorem dX9_write_110 : decode cX9_write 110 = .ok (.iload_n 1, 1) := by decide +kernel
theorem dX9_write_111 : decode cX9_write 111 = .ok (.iload_n 1, 1) := by decide +kernel
theorem dX9_write_112 : decode cX9_write 112 = .ok (.iconst 1, 1) := by decide +kernel
theorem dX9_write_113 : decode cX9_write 113 = .ok (.if_icmp .ne 7, 3) := by decide +kernel
theorem dX9_write_116 : decode cX9_write 116 = .ok (.iconst 0, 1) := by decide +kernel
theorem dX9_write_117 : decode cX9_write 117 = .ok (.goto 4, 3) := by decide +kernel
theorem dX9_write_120 : decode cX9_write 120 = .ok (.iconst 1, 1) := by decide +kernel
theorem dX9_write_121 : decode cX9_write 121 = .ok (.iload 7, 2) := by decide +kernel
theorem dX9_write_123 : decode cX9_write 123 = .ok (.iload_n 3, 1) := by decide +kernel
theorem dX9_write_124 : decode cX9_write 124 = .ok (.iload 7, 2) := by decide +kernel
theorem dX9_write_126 : decode cX9_write 126 = .ok (.isub, 1) := by decide +kernel
theorem dX9_write_127 : decode cX9_write 127 = .ok (.bipush 16, 2) := by decide +kernel
theorem dX9_write_129 : decode cX9_write 129 = .ok (.if_icmp .ge 12, 3) := by decide +kernel
theorem dX9_write_132 : decode cX9_write 132 = .ok (.iload_n 3, 1) := by decide +kernel
theorem dX9_write_133 : decode cX9_write 133 = .ok (.iload 7, 2) := by decide +kernel
theorem dX9_write_135 : decode cX9_write 135 = .ok (.isub, 1) := by decide +kernel
theorem dX9_write_136 : decode cX9_write 136 = .ok (.iconst 1, 1) := by decide +kernel
theorem dX9_write_137 : decode cX9_write 137 = .ok (.iadd, 1) := by decide +kernel
theorem dX9_write_138 : decode cX9_write 138 = .ok (.goto 5, 3) := by decide +kernel
theorem dX9_write_141 : decode cX9_write 141 = .ok (.bipush 16, 2) := by decide +kernel
theorem dX9_write_143 : decode cX9_write 143 = .ok (.invokevirtual 192, 3) := by decide +kernel
theorem dX9_write_146 : decode cX9_write 146 = .ok (.iinc 7 16, 3) := by decide +kernel
theorem dX9_write_149 : decode cX9_write 149 = .ok (.goto (-46), 3) := by decide +kernel
theorem dX9_write_152 : decode cX9_write 152 = .ok (.aload_n 0, 1) := by decide +kernel
theorem dX9_write_153 : decode cX9_write 153 = .ok (.iload_n 1, 1) := by decide +kernel
theorem dX9_write_154 : decode cX9_write 154 = .ok (.iload_n 1, 1) := by decide +kernel
theorem dX9_write_155 : decode cX9_write 155 = .ok (.iconst 1, 1) := by decide +kernel
theorem dX9_write_156 : decode cX9_write 156 = .ok (.if_icmp .ne 7, 3) := by decide +kernel
theorem dX9_write_159 : decode cX9_write 159 = .ok (.iconst 1, 1) := by decide +kernel
theorem dX9_write_160 : decode cX9_write 160 = .ok (.goto 5, 3) := by decide +kernel
theorem dX9_write_163 : decode cX9_write 163 = .ok (.bipush 9, 2) := by decide +kernel
theorem dX9_write_165 : decode cX9_write 165 = .ok (.iconst 0, 1) := by decide +kernel
theorem dX9_write_166 : decode cX9_write 166 = .ok (.iconst 0, 1) := by decide +kernel
theorem dX9_write_167 : decode cX9_write 167 = .ok (.invokevirtual 192, 3) := by decide +kernel
theorem dX9_write_170 : decode cX9_write 170 = .ok (.aload_n 0, 1) := by decide +kernel
theorem dX9_write_171 : decode cX9_write 171 = .ok (.getfield 130, 3) := by decide +kernel
theorem dX9_write_174 : decode cX9_write 174 = .ok (.ireturn, 1) := by decide +kernel
theorem dX9_isChip_0 : decode cX9_isChip 0 = .ok (.iload_n 1, 1) := by decide +kernel
theorem dX9_isChip_1 : decode cX9_isChip 1 = .ok (.iconst 0, 1) := by decide +kernel
theorem dX9_isChip_2 : decode cX9_isChip 2 = .ok (.aload_n 0, 1) := by decide +kernel
theorem dX9_isChip_3 : decode cX9_isChip 3 = .ok (.getfield 196, 3) := by decide +kernel
theorem dX9_isChip_6 : decode cX9_isChip 6 = .ok (.iconst 1, 1) := by decide +kernel
theorem dX9_isChip_7 : decode cX9_isChip 7 = .ok (.isub, 1) := by decide +kernel
theorem dX9_isChip_8 : decode cX9_isChip 8 = .ok (.invokestatic 137, 3) := by decide +kernel
theorem dX9_isChip_11 : decode cX9_isChip 11 = .ok (.ireturn, 1) := by decide +kernel
theorem dX9_chip_0 : decode cX9_chip 0 = .ok (.iload_n 1, 1) := by decide +kernel
theorem dX9_chip_1 : decode cX9_chip 1 = .ok (.bipush 8, 2) := by decide +kernel
theorem dX9_chip_3 : decode cX9_chip 3 = .ok (.bipush 64, 2) := by decide +kernel
theorem dX9_chip_5 : decode cX9_chip 5 = .ok (.invokestatic 137, 3) := by decide +kernel
theorem dX9_chip_8 : decode cX9_chip 8 = .ok (.ifCond .eq 44, 3) := by decide +kernel
theorem dX9_chip_11 : decode cX9_chip 11 = .ok (.iload_n 1, 1) := by decide +kernel
theorem dX9_chip_12 : decode cX9_chip 12 = .ok (.bipush 8, 2) := by decide +kernel
theorem dX9_chip_14 : decode cX9_chip 14 = .ok (.irem, 1) := by decide +kernel
theorem dX9_chip_15 : decode cX9_chip 15 = .ok (.ifCond .ne 37, 3) := by decide +kernel
theorem dX9_chip_18 : decode cX9_chip 18 = .ok (.iload_n 2, 1) := by decide +kernel
theorem dX9_chip_19 : decode cX9_chip 19 = .ok (.iconst 0, 1) := by decide +kernel
theorem dX9_chip_20 : decode cX9_chip 20 = .ok (.sipush 255, 3) := by decide +kernel
theorem dX9_chip_23 : decode cX9_chip 23 = .ok (.invokestatic 137, 3) := by decide +kernel
theorem dX9_chip_26 : decode cX9_chip 26 = .ok (.ifCond .eq 26, 3) := by decide +kernel
theorem dX9_chip_29 : decode cX9_chip 29 = .ok (.iload 4, 2) := by decide +kernel
theorem dX9_chip_31 : decode cX9_chip 31 = .ok (.iconst 1, 1) := by decide +kernel
theorem dX9_chip_32 : decode cX9_chip 32 = .ok (.bipush 30, 2) := by decide +kernel
theorem dX9_chip_34 : decode cX9_chip 34 = .ok (.invokestatic 137, 3) := by decide +kernel
theorem dX9_chip_37 : decode cX9_chip 37 = .ok (.ifCond .eq 15, 3) := by decide +kernel
theorem dX9_chip_40 : decode cX9_chip 40 = .ok (.iload 5, 2) := by decide +kernel
theorem dX9_chip_42 : decode cX9_chip 42 = .ok (.iload 4, 2) := by decide +kernel
theorem dX9_chip_44 : decode cX9_chip 44 = .ok (.bipush 30, 2) := by decide +kernel
theorem dX9_chip_46 : decode cX9_chip 46 = .ok (.invokestatic 137, 3) := by decide +kernel
theorem dX9_chip_49 : decode cX9_chip 49 = .ok (.ifCond .ne 7, 3) := by decide +kernel
theorem dX9_chip_52 : decode cX9_chip 52 = .ok (.iconst 1, 1) := by decide +kernel
theorem dX9_chip_53 : decode cX9_chip 53 = .ok (.goto 4, 3) := by decide +kernel
theorem dX9_chip_56 : decode cX9_chip 56 = .ok (.iconst 0, 1) := by decide +kernel
theorem dX9_chip_57 : decode cX9_chip 57 = .ok (.istore 9, 2) := by decide +kernel
theorem dX9_chip_59 : decode cX9_chip 59 = .ok (.iload 9, 2) := by decide +kernel
theorem dX9_chip_61 : decode cX9_chip 61 = .ok (.ifCond .ne 44, 3) := by decide +kernel
theorem dX9_chip_64 : decode cX9_chip 64 = .ok (.iload 6, 2) := by decide +kernel
theorem dX9_chip_66 : decode cX9_chip 66 = .ok (.iconst 1, 1) := by decide +kernel
theorem dX9_chip_67 : decode cX9_chip 67 = .ok (.sipush 200, 3) := by decide +kernel
theorem dX9_chip_70 : decode cX9_chip 70 = .ok (.invokestatic 137, 3) := by decide +kernel
theorem dX9_chip_73 : decode cX9_chip 73 = .ok (.ifCond .eq 32, 3) := by decide +kernel
theorem dX9_chip_76 : decode cX9_chip 76 = .ok (.iload 7, 2) := by decide +kernel
theorem dX9_chip_78 : decode cX9_chip 78 = .ok (.iconst 0, 1) := by decide +kernel
theorem dX9_chip_79 : decode cX9_chip 79 = .ok (.iconst 5, 1) := by decide +kernel
theorem dX9_chip_80 : decode cX9_chip 80 = .ok (.invokestatic 137, 3) := by decide +kernel
theorem dX9_chip_83 : decode cX9_chip 83 = .ok (.ifCond .eq 22, 3) := by decide +kernel
theorem dX9_chip_86 : decode cX9_chip 86 = .ok (.iload 8, 2) := by decide +kernel
theorem dX9_chip_88 : decode cX9_chip 88 = .ok (.iconst 0, 1) := by decide +kernel
theorem dX9_chip_89 : decode cX9_chip 89 = .ok (.bipush 50, 2) := by decide +kernel
theorem dX9_chip_91 : decode cX9_chip 91 = .ok (.invokestatic 137, 3) := by decide +kernel
theorem dX9_chip_94 : decode cX9_chip 94 = .ok (.ifCond .eq 11, 3) := by decide +kernel
theorem dX9_chip_97 : decode cX9_chip 97 = .ok (.aload_n 0, 1) := by decide +kernel
theorem dX9_chip_98 : decode cX9_chip 98 = .ok (.getfield 196, 3) := by decide +kernel
theorem dX9_chip_101 : decode cX9_chip 101 = .ok (.iconst 4, 1) := by decide +kernel
theorem dX9_chip_102 : decode cX9_chip 102 = .ok (.if_icmp .ne 5, 3) := by decide +kernel
theorem dX9_chip_105 : decode cX9_chip 105 = .ok (.iconst (-1), 1) := by decide +kernel
theorem dX9_chip_106 : decode cX9_chip 106 = .ok (.ireturn, 1) := by decide +kernel
theorem dX9_chip_107 : decode cX9_chip 107 = .ok (.aload_n 0, 1) := by decide +kernel
theorem dX9_chip_108 : decode cX9_chip 108 = .ok (.getfield 33, 3) := by decide +kernel
theorem dX9_chip_111 : decode cX9_chip 111 = .ok (.aload_n 0, 1) := by decide +kernel
theorem dX9_chip_112 : decode cX9_chip 112 = .ok (.getfield 196, 3) := by decide +kernel
theorem dX9_chip_115 : decode cX9_chip 115 = .ok (.iload_n 1, 1) := by decide +kernel
theorem dX9_chip_116 : decode cX9_chip 116 = .ok (.iastore, 1) := by decide +kernel
theorem dX9_chip_117 : decode cX9_chip 117 = .ok (.aload_n 0, 1) := by decide +kernel
theorem dX9_chip_118 : decode cX9_chip 118 = .ok (.getfield 36, 3) := by decide +kernel
theorem dX9_chip_121 : decode cX9_chip 121 = .ok (.aload_n 0, 1) := by decide +kernel
theorem dX9_chip_122 : decode cX9_chip 122 = .ok (.getfield 196, 3) := by decide +kernel
theorem dX9_chip_125 : decode cX9_chip 125 = .ok (.iload_n 2, 1) := by decide +kernel
theorem dX9_chip_126 : decode cX9_chip 126 = .ok (.iastore, 1) := by decide +kernel
theorem dX9_chip_127 : decode cX9_chip 127 = .ok (.aload_n 0, 1) := by decide +kernel
theorem dX9_chip_128 : decode cX9_chip 128 = .ok (.getfield 39, 3) := by decide +kernel
theorem dX9_chip_131 : decode cX9_chip 131 = .ok (.aload_n 0, 1) := by decide +kernel
theorem dX9_chip_132 : decode cX9_chip 132 = .ok (.getfield 196, 3) := by decide +kernel
theorem dX9_chip_135 : decode cX9_chip 135 = .ok (.iload_n 3, 1) := by decide +kernel
theorem dX9_chip_136 : decode cX9_chip 136 = .ok (.bastore, 1) := by decide +kernel
theorem dX9_chip_137 : decode cX9_chip 137 = .ok (.aload_n 0, 1) := by decide +kernel
theorem dX9_chip_138 : decode cX9_chip 138 = .ok (.getfield 42, 3) := by decide +kernel
theorem dX9_chip_141 : decode cX9_chip 141 = .ok (.aload_n 0, 1) := by decide +kernel
theorem dX9_chip_142 : decode cX9_chip 142 = .ok (.getfield 196, 3) := by decide +kernel
theorem dX9_chip_145 : decode cX9_chip 145 = .ok (.iload 4, 2) := by decide +kernel
theorem dX9_chip_147 : decode cX9_chip 147 = .ok (.iastore, 1) := by decide +kernel
theorem dX9_chip_148 : decode cX9_chip 148 = .ok (.aload_n 0, 1) := by decide +kernel
theorem dX9_chip_149 : decode cX9_chip 149 = .ok (.getfield 45, 3) := by decide +kernel
theorem dX9_chip_152 : decode cX9_chip 152 = .ok (.aload_n 0, 1) := by decide +kernel
theorem dX9_chip_153 : decode cX9_chip 153 = .ok (.getfield 196, 3) := by decide +kernel
theorem dX9_chip_156 : decode cX9_chip 156 = .ok (.iload 5, 2) := by decide +kernel
theorem dX9_chip_158 : decode cX9_chip 158 = .ok (.iastore, 1) := by decide +kernel
theorem dX9_chip_159 : decode cX9_chip 159 = .ok (.aload_n 0, 1) := by decide +kernel
theorem dX9_chip_160 : decode cX9_chip 160 = .ok (.getfield 48, 3) := by decide +kernel
theorem dX9_chip_163 : decode cX9_chip 163 = .ok (.aload_n 0, 1) := by decide +kernel
theorem dX9_chip_164 : decode cX9_chip 164 = .ok (.getfield 196, 3) := by decide +kernel
theorem dX9_chip_167 : decode cX9_chip 167 = .ok (.iload 6, 2) := by decide +kernel
theorem dX9_chip_169 : decode cX9_chip 169 = .ok (.iastore, 1) := by decide +kernel
theorem dX9_chip_170 : decode cX9_chip 170 = .ok (.aload_n 0, 1) := by decide +kernel
theorem dX9_chip_171 : decode cX9_chip 171 = .ok (.getfield 51, 3) := by decide +kernel
theorem dX9_chip_174 : decode cX9_chip 174 = .ok (.aload_n 0, 1) := by decide +kernel
theorem dX9_chip_175 : decode cX9_chip 175 = .ok (.getfield 196, 3) := by decide +kernel
theorem dX9_chip_178 : decode cX9_chip 178 = .ok (.iload 7, 2) := by decide +kernel
theorem dX9_chip_180 : decode cX9_chip 180 = .ok (.iastore, 1) := by decide +kernel
theorem dX9_chip_181 : decode cX9_chip 181 = .ok (.aload_n 0, 1) := by decide +kernel
theorem dX9_chip_182 : decode cX9_chip 182 = .ok (.getfield 54, 3) := by decide +kernel
theorem dX9_chip_185 : decode cX9_chip 185 = .ok (.aload_n 0, 1) := by decide +kernel
theorem dX9_chip_186 : decode cX9_chip 186 = .ok (.getfield 196, 3) := by decide +kernel
theorem dX9_chip_189 : decode cX9_chip 189 = .ok (.iload 8, 2) := by decide +kernel
theorem dX9_chip_191 : decode cX9_chip 191 = .ok (.iastore, 1) := by decide +kernel
theorem dX9_chip_192 : decode cX9_chip 192 = .ok (.bipush 64, 2) := by decide +kernel
theorem dX9_chip_194 : decode cX9_chip 194 = .ok (.aload_n 0, 1) := by decide +kernel
theorem dX9_chip_195 : decode cX9_chip 195 = .ok (.getfield 196, 3) := by decide +kernel
theorem dX9_chip_198 : decode cX9_chip 198 = .ok (.imul, 1) := by decide +kernel
theorem dX9_chip_199 : decode cX9_chip 199 = .ok (.istore 10, 2) := by decide +kernel
theorem dX9_chip_201 : decode cX9_chip 201 = .ok (.iload 10, 2) := by decide +kernel
theorem dX9_chip_203 : decode cX9_chip 203 = .ok (.bipush 64, 2) := by decide +kernel
theorem dX9_chip_205 : decode cX9_chip 205 = .ok (.aload_n 0, 1) := by decide +kernel
theorem dX9_chip_206 : decode cX9_chip 206 = .ok (.getfield 196, 3) := by decide +kernel
theorem dX9_chip_209 : decode cX9_chip 209 = .ok (.imul, 1) := by decide +kernel
theorem dX9_chip_210 : decode cX9_chip 210 = .ok (.bipush 64, 2) := by decide +kernel
theorem dX9_chip_212 : decode cX9_chip 212 = .ok (.iadd, 1) := by decide +kernel
theorem dX9_chip_213 : decode cX9_chip 213 = .ok (.if_icmp .ge 45, 3) := by decide +kernel
theorem dX9_chip_216 : decode cX9_chip 216 = .ok (.aload_n 0, 1) := by decide +kernel
theorem dX9_chip_217 : decode cX9_chip 217 = .ok (.getfield 64, 3) := by decide +kernel
theorem dX9_chip_220 : decode cX9_chip 220 = .ok (.iload 10, 2) := by decide +kernel
theorem dX9_chip_222 : decode cX9_chip 222 = .ok (.sipush 255, 3) := by decide +kernel
theorem dX9_chip_225 : decode cX9_chip 225 = .ok (.iastore, 1) := by decide +kernel
theorem dX9_chip_226 : decode cX9_chip 226 = .ok (.aload_n 0, 1) := by decide +kernel
theorem dX9_chip_227 : decode cX9_chip 227 = .ok (.getfield 67, 3) := by decide +kernel
theorem dX9_chip_230 : decode cX9_chip 230 = .ok (.iload 10, 2) := by decide +kernel
theorem dX9_chip_232 : decode cX9_chip 232 = .ok (.sipush 255, 3) := by decide +kernel
theorem dX9_chip_235 : decode cX9_chip 235 = .ok (.iastore, 1) := by decide +kernel
theorem dX9_chip_236 : decode cX9_chip 236 = .ok (.aload_n 0, 1) := by decide +kernel
theorem dX9_chip_237 : decode cX9_chip 237 = .ok (.getfield 70, 3) := by decide +kernel
theorem dX9_chip_240 : decode cX9_chip 240 = .ok (.iload 10, 2) := by decide +kernel
theorem dX9_chip_242 : decode cX9_chip 242 = .ok (.iconst 3, 1) := by decide +kernel
theorem dX9_chip_243 : decode cX9_chip 243 = .ok (.iastore, 1) := by decide +kernel
theorem dX9_chip_244 : decode cX9_chip 244 = .ok (.aload_n 0, 1) := by decide +kernel
theorem dX9_chip_245 : decode cX9_chip 245 = .ok (.getfield 76, 3) := by decide +kernel
theorem dX9_chip_248 : decode cX9_chip 248 = .ok (.iload 10, 2) := by decide +kernel
theorem dX9_chip_250 : decode cX9_chip 250 = .ok (.iconst (-1), 1) := by decide +kernel
theorem dX9_chip_251 : decode cX9_chip 251 = .ok (.iastore, 1) := by decide +kernel
theorem dX9_chip_252 : decode cX9_chip 252 = .ok (.iinc 10 1, 3) := by decide +kernel
theorem dX9_chip_255 : decode cX9_chip 255 = .ok (.goto (-54), 3) := by decide +kernel
theorem dX9_chip_258 : decode cX9_chip 258 = .ok (.aload_n 0, 1) := by decide +kernel
theorem dX9_chip_259 : decode cX9_chip 259 = .ok (.dup, 1) := by decide +kernel
theorem dX9_chip_260 : decode cX9_chip 260 = .ok (.getfield 196, 3) := by decide +kernel
theorem dX9_chip_263 : decode cX9_chip 263 = .ok (.iconst 1, 1) := by decide +kernel
theorem dX9_chip_264 : decode cX9_chip 264 = .ok (.iadd, 1) := by decide +kernel
theorem dX9_chip_265 : decode cX9_chip 265 = .ok (.putfield 196, 3) := by decide +kernel
theorem dX9_chip_268 : decode cX9_chip 268 = .ok (.aload_n 0, 1) := by decide +kernel
theorem dX9_chip_269 : decode cX9_chip 269 = .ok (.getfield 196, 3) := by decide +kernel
theorem dX9_chip_272 : decode cX9_chip 272 = .ok (.iconst 1, 1) := by decide +kernel
theorem dX9_chip_273 : decode cX9_chip 273 = .ok (.isub, 1) := by decide +kernel
theorem dX9_chip_274 : decode cX9_chip 274 = .ok (.ireturn, 1) := by decide +kernel
theorem dX9_isAddress_0 : decode cX9_isAddress 0 = .ok (.aload_n 0, 1) := by decide +kernel
theorem dX9_isAddress_1 : decode cX9_isAddress 1 = .ok (.iload_n 1, 1) := by decide +kernel
theorem dX9_isAddress_2 : decode cX9_isAddress 2 = .ok (.invokevirtual 199, 3) := by decide +kernel
theorem dX9_isAddress_5 : decode cX9_isAddress 5 = .ok (.ifCond .eq 23, 3) := by decide +kernel
theorem dX9_isAddress_8 : decode cX9_isAddress 8 = .ok (.iload_n 2, 1) := by decide +kernel
theorem dX9_isAddress_9 : decode cX9_isAddress 9 = .ok (.iconst 0, 1) := by decide +kernel
theorem dX9_isAddress_10 : decode cX9_isAddress 10 = .ok (.aload_n 0, 1) := by decide +kernel
theorem dX9_isAddress_11 : decode cX9_isAddress 11 = .ok (.getfield 33, 3) := by decide +kernel
theorem dX9_isAddress_14 : decode cX9_isAddress 14 = .ok (.iload_n 1, 1) := by decide +kernel
theorem dX9_isAddress_15 : decode cX9_isAddress 15 = .ok (.iaload, 1) := by decide +kernel
theorem dX9_isAddress_16 : decode cX9_isAddress 16 = .ok (.iconst 1, 1) := by decide +kernel
theorem dX9_isAddress_17 : decode cX9_isAddress 17 = .ok (.isub, 1) := by decide +kernel
theorem dX9_isAddress_18 : decode cX9_isAddress 18 = .ok (.invokestatic 137, 3) := by decide +kernel
theorem dX9_isAddress_21 : decode cX9_isAddress 21 = .ok (.ifCond .eq 7, 3) := by decide +kernel
theorem dX9_isAddress_24 : decode cX9_isAddress 24 = .ok (.iconst 1, 1) := by decide +kernel
theorem dX9_isAddress_25 : decode cX9_isAddress 25 = .ok (.goto 4, 3) := by decide +kernel
theorem dX9_isAddress_28 : decode cX9_isAddress 28 = .ok (.iconst 0, 1) := by decide +kernel
theorem dX9_isAddress_29 : decode cX9_isAddress 29 = .ok (.ireturn, 1) := by decide +kernel
theorem dX9_need_0 : decode cX9_need 0 = .ok (.aload_n 0, 1) := by decide +kernel
theorem dX9_need_1 : decode cX9_need 1 = .ok (.iload_n 1, 1) := by decide +kernel
theorem dX9_need_2 : decode cX9_need 2 = .ok (.iload_n 2, 1) := by decide +kernel
theorem dX9_need_3 : decode cX9_need 3 = .ok (.invokevirtual 203, 3) := by decide +kernel
theorem dX9_need_6 : decode cX9_need 6 = .ok (.ifCond .eq 13, 3) := by decide +kernel
theorem dX9_need_9 : decode cX9_need 9 = .ok (.iload_n 3, 1) := by decide +kernel
theorem dX9_need_10 : decode cX9_need 10 = .ok (.iconst 1, 1) := by decide +kernel
theorem dX9_need_11 : decode cX9_need 11 = .ok (.bipush 60, 2) := by decide +kernel
theorem dX9_need_13 : decode cX9_need 13 = .ok (.invokestatic 137, 3) := by decide +kernel
theorem dX9_need_16 : decode cX9_need 16 = .ok (.ifCond .ne 5, 3) := by decide +kernel
theorem dX9_need_19 : decode cX9_need 19 = .ok (.iconst 0, 1) := by decide +kernel
theorem dX9_need_20 : decode cX9_need 20 = .ok (.ireturn, 1) := by decide +kernel
theorem dX9_need_21 : decode cX9_need 21 = .ok (.aload_n 0, 1) := by decide +kernel
theorem dX9_need_22 : decode cX9_need 22 = .ok (.getfield 70, 3) := by decide +kernel
theorem dX9_need_25 : decode cX9_need 25 = .ok (.bipush 64, 2) := by decide +kernel
theorem dX9_need_27 : decode cX9_need 27 = .ok (.iload_n 1, 1) := by decide +kernel
theorem dX9_need_28 : decode cX9_need 28 = .ok (.imul, 1) := by decide +kernel
theorem dX9_need_29 : decode cX9_need 29 = .ok (.iload_n 2, 1) := by decide +kernel
theorem dX9_need_30 : decode cX9_need 30 = .ok (.iadd, 1) := by decide +kernel
theorem dX9_need_31 : decode cX9_need 31 = .ok (.iload_n 3, 1) := by decide +kernel
theorem dX9_need_32 : decode cX9_need 32 = .ok (.iastore, 1) := by decide +kernel
theorem dX9_need_33 : decode cX9_need 33 = .ok (.iconst 1, 1) := by decide +kernel
theorem dX9_need_34 : decode cX9_need 34 = .ok (.ireturn, 1) := by decide +kernel
theorem dX9_bad_0 : decode cX9_bad 0 = .ok (.aload_n 0, 1) := by decide +kernel
theorem dX9_bad_1 : decode cX9_bad 1 = .ok (.iload_n 1, 1) := by decide +kernel
theorem dX9_bad_2 : decode cX9_bad 2 = .ok (.invokevirtual 199, 3) := by decide +kernel
theorem dX9_bad_5 : decode cX9_bad 5 = .ok (.ifCond .eq 22, 3) := by decide +kernel
theorem dX9_bad_8 : decode cX9_bad 8 = .ok (.iload_n 2, 1) := by decide +kernel
theorem dX9_bad_9 : decode cX9_bad 9 = .ok (.iconst 0, 1) := by decide +kernel
theorem dX9_bad_10 : decode cX9_bad 10 = .ok (.aload_n 0, 1) := by decide +kernel
theorem dX9_bad_11 : decode cX9_bad 11 = .ok (.getfield 33, 3) := by decide +kernel
theorem dX9_bad_14 : decode cX9_bad 14 = .ok (.iload_n 1, 1) := by decide +kernel
theorem dX9_bad_15 : decode cX9_bad 15 = .ok (.iaload, 1) := by decide +kernel
theorem dX9_bad_16 : decode cX9_bad 16 = .ok (.bipush 8, 2) := by decide +kernel
theorem dX9_bad_18 : decode cX9_bad 18 = .ok (.idiv, 1) := by decide +kernel
theorem dX9_bad_19 : decode cX9_bad 19 = .ok (.iconst 1, 1) := by decide +kernel
theorem dX9_bad_20 : decode cX9_bad 20 = .ok (.isub, 1) := by decide +kernel
theorem dX9_bad_21 : decode cX9_bad 21 = .ok (.invokestatic 137, 3) := by decide +kernel
theorem dX9_bad_24 : decode cX9_bad 24 = .ok (.ifCond .ne 5, 3) := by decide +kernel
theorem dX9_bad_27 : decode cX9_bad 27 = .ok (.iconst 0, 1) := by decide +kernel
theorem dX9_bad_28 : decode cX9_bad 28 = .ok (.ireturn, 1) := by decide +kernel
theorem dX9_bad_29 : decode cX9_bad 29 = .ok (.aload_n 0, 1) := by decide +kernel
theorem dX9_bad_30 : decode cX9_bad 30 = .ok (.getfield 79, 3) := by decide +kernel
theorem dX9_bad_33 : decode cX9_bad 33 = .ok (.bipush 8, 2) := by decide +kernel
theorem dX9_bad_35 : decode cX9_bad 35 = .ok (.iload_n 1, 1) := by decide +kernel
theorem dX9_bad_36 : decode cX9_bad 36 = .ok (.imul, 1) := by decide +kernel
theorem dX9_bad_37 : decode cX9_bad 37 = .ok (.iload_n 2, 1) := by decide +kernel
theorem dX9_bad_38 : decode cX9_bad 38 = .ok (.iadd, 1) := by decide +kernel
theorem dX9_bad_39 : decode cX9_bad 39 = .ok (.iload_n 3, 1) := by decide +kernel
theorem dX9_bad_40 : decode cX9_bad 40 = .ok (.bastore, 1) := by decide +kernel
theorem dX9_bad_41 : decode cX9_bad 41 = .ok (.iconst 1, 1) := by decide +kernel
theorem dX9_bad_42 : decode cX9_bad 42 = .ok (.ireturn, 1) := by decide +kernel
theorem dX9_contact_0 : decode cX9_contact 0 = .ok (.aload_n 0, 1) := by decide +kernel
theorem dX9_contact_1 : decode cX9_contact 1 = .ok (.iload_n 1, 1) := by decide +kernel
theorem dX9_contact_2 : decode cX9_contact 2 = .ok (.invokevirtual 199, 3) := by decide +kernel
theorem dX9_contact_5 : decode cX9_contact 5 = .ok (.ifCond .eq 13, 3) := by decide +kernel
theorem dX9_contact_8 : decode cX9_contact 8 = .ok (.iload_n 2, 1) := by decide +kernel
theorem dX9_contact_9 : decode cX9_contact 9 = .ok (.iconst 0, 1) := by decide +kernel
theorem dX9_contact_10 : decode cX9_contact 10 = .ok (.bipush 27, 2) := by decide +kernel
theorem dX9_contact_12 : decode cX9_contact 12 = .ok (.invokestatic 137, 3) := by decide +kernel
theorem dX9_contact_15 : decode cX9_contact 15 = .ok (.ifCond .ne 5, 3) := by decide +kernel
theorem dX9_contact_18 : decode cX9_contact 18 = .ok (.iconst 0, 1) := by decide +kernel
theorem dX9_contact_19 : decode cX9_contact 19 = .ok (.ireturn, 1) := by decide +kernel
theorem dX9_contact_20 : decode cX9_contact 20 = .ok (.aload_n 0, 1) := by decide +kernel
theorem dX9_contact_21 : decode cX9_contact 21 = .ok (.getfield 82, 3) := by decide +kernel
theorem dX9_contact_24 : decode cX9_contact 24 = .ok (.bipush 28, 2) := by decide +kernel
theorem dX9_contact_26 : decode cX9_contact 26 = .ok (.iload_n 1, 1) := by decide +kernel
theorem dX9_contact_27 : decode cX9_contact 27 = .ok (.imul, 1) := by decide +kernel
theorem dX9_contact_28 : decode cX9_contact 28 = .ok (.iload_n 2, 1) := by decide +kernel
theorem dX9_contact_29 : decode cX9_contact 29 = .ok (.iadd, 1) := by decide +kernel
theorem dX9_contact_30 : decode cX9_contact 30 = .ok (.iload_n 3, 1) := by decide +kernel
theorem dX9_contact_31 : decode cX9_contact 31 = .ok (.ifCond .ne 7, 3) := by decide +kernel
theorem dX9_contact_34 : decode cX9_contact 34 = .ok (.iconst 1, 1) := by decide +kernel
theorem dX9_contact_35 : decode cX9_contact 35 = .ok (.goto 4, 3) := by decide +kernel
theorem dX9_contact_38 : decode cX9_contact 38 = .ok (.iconst 0, 1) := by decide +kernel
theorem dX9_contact_39 : decode cX9_contact 39 = .ok (.bastore, 1) := by decide +kernel
theorem dX9_contact_40 : decode cX9_contact 40 = .ok (.iconst 1, 1) := by decide +kernel
theorem dX9_contact_41 : decode cX9_contact 41 = .ok (.ireturn, 1) := by decide +kernel
theorem dX9_erase_0 : decode cX9_erase 0 = .ok (.aload_n 0, 1) := by decide +kernel
theorem dX9_erase_1 : decode cX9_erase 1 = .ok (.iload_n 1, 1) := by decide +kernel
theorem dX9_erase_2 : decode cX9_erase 2 = .ok (.invokevirtual 199, 3) := by decide +kernel
theorem dX9_erase_5 : decode cX9_erase 5 = .ok (.ifCond .eq 12, 3) := by decide +kernel
theorem dX9_erase_8 : decode cX9_erase 8 = .ok (.aload_n 0, 1) := by decide +kernel
theorem dX9_erase_9 : decode cX9_erase 9 = .ok (.getfield 39, 3) := by decide +kernel
theorem dX9_erase_12 : decode cX9_erase 12 = .ok (.iload_n 1, 1) := by decide +kernel
theorem dX9_erase_13 : decode cX9_erase 13 = .ok (.baload, 1) := by decide +kernel
theorem dX9_erase_14 : decode cX9_erase 14 = .ok (.ifCond .ne 5, 3) := by decide +kernel
theorem dX9_erase_17 : decode cX9_erase 17 = .ok (.iconst (-1), 1) := by decide +kernel
theorem dX9_erase_18 : decode cX9_erase 18 = .ok (.ireturn, 1) := by decide +kernel
theorem dX9_erase_19 : decode cX9_erase 19 = .ok (.aload_n 0, 1) := by decide +kernel
theorem dX9_erase_20 : decode cX9_erase 20 = .ok (.getfield 57, 3) := by decide +kernel
theorem dX9_erase_23 : decode cX9_erase 23 = .ok (.iload_n 1, 1) := by decide +kernel
theorem dX9_erase_24 : decode cX9_erase 24 = .ok (.dup2, 1) := by decide +kernel
theorem dX9_erase_25 : decode cX9_erase 25 = .ok (.iaload, 1) := by decide +kernel
theorem dX9_erase_26 : decode cX9_erase 26 = .ok (.iconst 1, 1) := by decide +kernel
theorem dX9_erase_27 : decode cX9_erase 27 = .ok (.iadd, 1) := by decide +kernel
theorem dX9_erase_28 : decode cX9_erase 28 = .ok (.iastore, 1) := by decide +kernel
theorem dX9_erase_29 : decode cX9_erase 29 = .ok (.bipush 64, 2) := by decide +kernel
theorem dX9_erase_31 : decode cX9_erase 31 = .ok (.iload_n 1, 1) := by decide +kernel
theorem dX9_erase_32 : decode cX9_erase 32 = .ok (.imul, 1) := by decide +kernel
theorem dX9_erase_33 : decode cX9_erase 33 = .ok (.istore_n 2, 1) := by decide +kernel
theorem dX9_erase_34 : decode cX9_erase 34 = .ok (.iload_n 2, 1) := by decide +kernel
theorem dX9_erase_35 : decode cX9_erase 35 = .ok (.bipush 64, 2) := by decide +kernel
theorem dX9_erase_37 : decode cX9_erase 37 = .ok (.iload_n 1, 1) := by decide +kernel
theorem dX9_erase_38 : decode cX9_erase 38 = .ok (.imul, 1) := by decide +kernel
theorem dX9_erase_39 : decode cX9_erase 39 = .ok (.bipush 64, 2) := by decide +kernel
theorem dX9_erase_41 : decode cX9_erase 41 = .ok (.iadd, 1) := by decide +kernel
theorem dX9_erase_42 : decode cX9_erase 42 = .ok (.if_icmp .ge 66, 3) := by decide +kernel
theorem dX9_erase_45 : decode cX9_erase 45 = .ok (.aload_n 0, 1) := by decide +kernel
theorem dX9_erase_46 : decode cX9_erase 46 = .ok (.getfield 64, 3) := by decide +kernel
theorem dX9_erase_49 : decode cX9_erase 49 = .ok (.iload_n 2, 1) := by decide +kernel
theorem dX9_erase_50 : decode cX9_erase 50 = .ok (.sipush 255, 3) := by decide +kernel
theorem dX9_erase_53 : decode cX9_erase 53 = .ok (.iastore, 1) := by decide +kernel
theorem dX9_erase_54 : decode cX9_erase 54 = .ok (.aload_n 0, 1) := by decide +kernel
theorem dX9_erase_55 : decode cX9_erase 55 = .ok (.getfield 67, 3) := by decide +kernel
theorem dX9_erase_58 : decode cX9_erase 58 = .ok (.iload_n 2, 1) := by decide +kernel
theorem dX9_erase_59 : decode cX9_erase 59 = .ok (.sipush 255, 3) := by decide +kernel
theorem dX9_erase_62 : decode cX9_erase 62 = .ok (.iastore, 1) := by decide +kernel
theorem dX9_erase_63 : decode cX9_erase 63 = .ok (.aload_n 0, 1) := by decide +kernel
theorem dX9_erase_64 : decode cX9_erase 64 = .ok (.getfield 73, 3) := by decide +kernel
theorem dX9_erase_67 : decode cX9_erase 67 = .ok (.iload_n 2, 1) := by decide +kernel
theorem dX9_erase_68 : decode cX9_erase 68 = .ok (.iconst 0, 1) := by decide +kernel
theorem dX9_erase_69 : decode cX9_erase 69 = .ok (.iastore, 1) := by decide +kernel
theorem dX9_erase_70 : decode cX9_erase 70 = .ok (.aload_n 0, 1) := by decide +kernel
theorem dX9_erase_71 : decode cX9_erase 71 = .ok (.getfield 76, 3) := by decide +kernel
theorem dX9_erase_74 : decode cX9_erase 74 = .ok (.iload_n 2, 1) := by decide +kernel
theorem dX9_erase_75 : decode cX9_erase 75 = .ok (.iconst (-1), 1) := by decide +kernel
theorem dX9_erase_76 : decode cX9_erase 76 = .ok (.iastore, 1) := by decide +kernel
theorem dX9_erase_77 : decode cX9_erase 77 = .ok (.aload_n 0, 1) := by decide +kernel
theorem dX9_erase_78 : decode cX9_erase 78 = .ok (.getfield 57, 3) := by decide +kernel
theorem dX9_erase_81 : decode cX9_erase 81 = .ok (.iload_n 1, 1) := by decide +kernel
theorem dX9_erase_82 : decode cX9_erase 82 = .ok (.iaload, 1) := by decide +kernel
theorem dX9_erase_83 : decode cX9_erase 83 = .ok (.aload_n 0, 1) := by decide +kernel
theorem dX9_erase_84 : decode cX9_erase 84 = .ok (.getfield 54, 3) := by decide +kernel
theorem dX9_erase_87 : decode cX9_erase 87 = .ok (.iload_n 1, 1) := by decide +kernel
theorem dX9_erase_88 : decode cX9_erase 88 = .ok (.iaload, 1) := by decide +kernel
theorem dX9_erase_89 : decode cX9_erase 89 = .ok (.if_icmp .le 13, 3) := by decide +kernel
theorem dX9_erase_92 : decode cX9_erase 92 = .ok (.aload_n 0, 1) := by decide +kernel
theorem dX9_erase_93 : decode cX9_erase 93 = .ok (.getfield 70, 3) := by decide +kernel
theorem dX9_erase_96 : decode cX9_erase 96 = .ok (.iload_n 2, 1) := by decide +kernel
theorem dX9_erase_97 : decode cX9_erase 97 = .ok (.dup2, 1) := by decide +kernel
theorem dX9_erase_98 : decode cX9_erase 98 = .ok (.iaload, 1) := by decide +kernel
theorem dX9_erase_99 : decode cX9_erase 99 = .ok (.iconst 1, 1) := by decide +kernel
theorem dX9_erase_100 : decode cX9_erase 100 = .ok (.iadd, 1) := by decide +kernel
theorem dX9_erase_101 : decode cX9_erase 101 = .ok (.iastore, 1) := by decide +kernel
theorem dX9_erase_102 : decode cX9_erase 102 = .ok (.iinc 2 1, 3) := by decide +kernel
theorem dX9_erase_105 : decode cX9_erase 105 = .ok (.goto (-71), 3) := by decide +kernel
theorem dX9_erase_108 : decode cX9_erase 108 = .ok (.aload_n 0, 1) := by decide +kernel
theorem dX9_erase_109 : decode cX9_erase 109 = .ok (.getfield 57, 3) := by decide +kernel
theorem dX9_erase_112 : decode cX9_erase 112 = .ok (.iload_n 1, 1) := by decide +kernel
theorem dX9_erase_113 : decode cX9_erase 113 = .ok (.iaload, 1) := by decide +kernel
theorem dX9_erase_114 : decode cX9_erase 114 = .ok (.ireturn, 1) := by decide +kernel
theorem dX9_logicals_0 : decode cX9_logicals 0 = .ok (.iconst 0, 1) := by decide +kernel
theorem dX9_logicals_1 : decode cX9_logicals 1 = .ok (.istore_n 2, 1) := by decide +kernel
theorem dX9_logicals_2 : decode cX9_logicals 2 = .ok (.iconst 0, 1) := by decide +kernel
theorem dX9_logicals_3 : decode cX9_logicals 3 = .ok (.istore_n 3, 1) := by decide +kernel
theorem dX9_logicals_4 : decode cX9_logicals 4 = .ok (.iload_n 3, 1) := by decide +kernel
theorem dX9_logicals_5 : decode cX9_logicals 5 = .ok (.aload_n 0, 1) := by decide +kernel
theorem dX9_logicals_6 : decode cX9_logicals 6 = .ok (.getfield 33, 3) := by decide +kernel
theorem dX9_logicals_9 : decode cX9_logicals 9 = .ok (.iload_n 1, 1) := by decide +kernel
theorem dX9_logicals_10 : decode cX9_logicals 10 = .ok (.iaload, 1) := by decide +kernel
theorem dX9_logicals_11 : decode cX9_logicals 11 = .ok (.bipush 8, 2) := by decide +kernel
theorem dX9_logicals_13 : decode cX9_logicals 13 = .ok (.idiv, 1) := by decide +kernel
theorem dX9_logicals_14 : decode cX9_logicals 14 = .ok (.if_icmp .ge 32, 3) := by decide +kernel
theorem dX9_logicals_17 : decode cX9_logicals 17 = .ok (.iload_n 2, 1) := by decide +kernel
theorem dX9_logicals_18 : decode cX9_logicals 18 = .ok (.aload_n 0, 1) := by decide +kernel
theorem dX9_logicals_19 : decode cX9_logicals 19 = .ok (.getfield 79, 3) := by decide +kernel
theorem dX9_logicals_22 : decode cX9_logicals 22 = .ok (.bipush 8, 2) := by decide +kernel
theorem dX9_logicals_24 : decode cX9_logicals 24 = .ok (.iload_n 1, 1) := by decide +kernel
theorem dX9_logicals_25 : decode cX9_logicals 25 = .ok (.imul, 1) := by decide +kernel
theorem dX9_logicals_26 : decode cX9_logicals 26 = .ok (.iload_n 3, 1) := by decide +kernel
theorem dX9_logicals_27 : decode cX9_logicals 27 = .ok (.iadd, 1) := by decide +kernel
theorem dX9_logicals_28 : decode cX9_logicals 28 = .ok (.baload, 1) := by decide +kernel
theorem dX9_logicals_29 : decode cX9_logicals 29 = .ok (.ifCond .eq 7, 3) := by decide +kernel
theorem dX9_logicals_32 : decode cX9_logicals 32 = .ok (.iconst 0, 1) := by decide +kernel
theorem dX9_logicals_33 : decode cX9_logicals 33 = .ok (.goto 5, 3) := by decide +kernel
theorem dX9_logicals_36 : decode cX9_logicals 36 = .ok (.bipush 8, 2) := by decide +kernel
theorem dX9_logicals_38 : decode cX9_logicals 38 = .ok (.iadd, 1) := by decide +kernel
theorem dX9_logicals_39 : decode cX9_logicals 39 = .ok (.istore_n 2, 1) := by decide +kernel
theorem dX9_logicals_40 : decode cX9_logicals 40 = .ok (.iinc 3 1, 3) := by decide +kernel
theorem dX9_logicals_43 : decode cX9_logicals 43 = .ok (.goto (-39), 3) := by decide +kernel
theorem dX9_logicals_46 : decode cX9_logicals 46 = .ok (.iload_n 2, 1) := by decide +kernel
theorem dX9_logicals_47 : decode cX9_logicals 47 = .ok (.ireturn, 1) := by decide +kernel
theorem dX9_addressOf_0 : decode cX9_addressOf 0 = .ok (.iload_n 2, 1) := by decide +kernel
theorem dX9_addressOf_1 : decode cX9_addressOf 1 = .ok (.bipush 8, 2) := by decide +kernel
theorem dX9_addressOf_3 : decode cX9_addressOf 3 = .ok (.idiv, 1) := by decide +kernel
theorem dX9_addressOf_4 : decode cX9_addressOf 4 = .ok (.istore_n 3, 1) := by decide +kernel
theorem dX9_addressOf_5 : decode cX9_addressOf 5 = .ok (.iconst 0, 1) := by decide +kernel
theorem dX9_addressOf_6 : decode cX9_addressOf 6 = .ok (.istore 4, 2) := by decide +kernel
theorem dX9_addressOf_8 : decode cX9_addressOf 8 = .ok (.aload_n 0, 1) := by decide +kernel
theorem dX9_addressOf_9 : decode cX9_addressOf 9 = .ok (.getfield 79, 3) := by decide +kernel
theorem dX9_addressOf_12 : decode cX9_addressOf 12 = .ok (.bipush 8, 2) := by decide +kernel
theorem dX9_addressOf_14 : decode cX9_addressOf 14 = .ok (.iload_n 1, 1) := by decide +kernel
theorem dX9_addressOf_15 : decode cX9_addressOf 15 = .ok (.imul, 1) := by decide +kernel
theorem dX9_addressOf_16 : decode cX9_addressOf 16 = .ok (.iload 4, 2) := by decide +kernel
theorem dX9_addressOf_18 : decode cX9_addressOf 18 = .ok (.iadd, 1) := by decide +kernel
theorem dX9_addressOf_19 : decode cX9_addressOf 19 = .ok (.baload, 1) := by decide +kernel
theorem dX9_addressOf_20 : decode cX9_addressOf 20 = .ok (.ifCond .ne 7, 3) := by decide +kernel
theorem dX9_addressOf_23 : decode cX9_addressOf 23 = .ok (.iload_n 3, 1) := by decide +kernel
theorem dX9_addressOf_24 : decode cX9_addressOf 24 = .ok (.ifCond .le 32, 3) := by decide +kernel
theorem dX9_addressOf_27 : decode cX9_addressOf 27 = .ok (.iload_n 3, 1) := by decide +kernel
theorem dX9_addressOf_28 : decode cX9_addressOf 28 = .ok (.aload_n 0, 1) := by decide +kernel
theorem dX9_addressOf_29 : decode cX9_addressOf 29 = .ok (.getfield 79, 3) := by decide +kernel
theorem dX9_addressOf_32 : decode cX9_addressOf 32 = .ok (.bipush 8, 2) := by decide +kernel
theorem dX9_addressOf_34 : decode cX9_addressOf 34 = .ok (.iload_n 1, 1) := by decide +kernel
theorem dX9_addressOf_35 : decode cX9_addressOf 35 = .ok (.imul, 1) := by decide +kernel
theorem dX9_addressOf_36 : decode cX9_addressOf 36 = .ok (.iload 4, 2) := by decide +kernel
theorem dX9_addressOf_38 : decode cX9_addressOf 38 = .ok (.iadd, 1) := by decide +kernel
theorem dX9_addressOf_39 : decode cX9_addressOf 39 = .ok (.baload, 1) := by decide +kernel
theorem dX9_addressOf_40 : decode cX9_addressOf 40 = .ok (.ifCond .eq 7, 3) := by decide +kernel
theorem dX9_addressOf_43 : decode cX9_addressOf 43 = .ok (.iconst 0, 1) := by decide +kernel
theorem dX9_addressOf_44 : decode cX9_addressOf 44 = .ok (.goto 4, 3) := by decide +kernel
theorem dX9_addressOf_47 : decode cX9_addressOf 47 = .ok (.iconst 1, 1) := by decide +kernel
theorem dX9_addressOf_48 : decode cX9_addressOf 48 = .ok (.isub, 1) := by decide +kernel
theorem dX9_addressOf_49 : decode cX9_addressOf 49 = .ok (.istore_n 3, 1) := by decide +kernel
theorem dX9_addressOf_50 : decode cX9_addressOf 50 = .ok (.iinc 4 1, 3) := by decide +kernel
theorem dX9_addressOf_53 : decode cX9_addressOf 53 = .ok (.goto (-45), 3) := by decide +kernel
theorem dX9_addressOf_56 : decode cX9_addressOf 56 = .ok (.bipush 8, 2) := by decide +kernel
theorem dX9_addressOf_58 : decode cX9_addressOf 58 = .ok (.iload 4, 2) := by decide +kernel
theorem dX9_addressOf_60 : decode cX9_addressOf 60 = .ok (.imul, 1) := by decide +kernel
theorem dX9_addressOf_61 : decode cX9_addressOf 61 = .ok (.iload_n 2, 1) := by decide +kernel
theorem dX9_addressOf_62 : decode cX9_addressOf 62 = .ok (.bipush 8, 2) := by decide +kernel
theorem dX9_addressOf_64 : decode cX9_addressOf 64 = .ok (.irem, 1) := by decide +kernel
theorem dX9_addressOf_65 : decode cX9_addressOf 65 = .ok (.iadd, 1) := by decide +kernel
theorem dX9_addressOf_66 : decode cX9_addressOf 66 = .ok (.ireturn, 1) := by decide +kernel
theorem dX9_lacking_0 : decode cX9_lacking 0 = .ok (.iconst 0, 1) := by decide +kernel
theorem dX9_lacking_1 : decode cX9_lacking 1 = .ok (.istore_n 2, 1) := by decide +kernel
theorem dX9_lacking_2 : decode cX9_lacking 2 = .ok (.iload_n 2, 1) := by decide +kernel
theorem dX9_lacking_3 : decode cX9_lacking 3 = .ok (.bipush 28, 2) := by decide +kernel
theorem dX9_lacking_5 : decode cX9_lacking 5 = .ok (.if_icmp .ge 25, 3) := by decide +kernel
theorem dX9_lacking_8 : decode cX9_lacking 8 = .ok (.aload_n 0, 1) := by decide +kernel
theorem dX9_lacking_9 : decode cX9_lacking 9 = .ok (.getfield 82, 3) := by decide +kernel
theorem dX9_lacking_12 : decode cX9_lacking 12 = .ok (.bipush 28, 2) := by decide +kernel
theorem dX9_lacking_14 : decode cX9_lacking 14 = .ok (.iload_n 1, 1) := by decide +kernel
theorem dX9_lacking_15 : decode cX9_lacking 15 = .ok (.imul, 1) := by decide +kernel
theorem dX9_lacking_16 : decode cX9_lacking 16 = .ok (.iload_n 2, 1) := by decide +kernel
theorem dX9_lacking_17 : decode cX9_lacking 17 = .ok (.iadd, 1) := by decide +kernel
theorem dX9_lacking_18 : decode cX9_lacking 18 = .ok (.baload, 1) := by decide +kernel
theorem dX9_lacking_19 : decode cX9_lacking 19 = .ok (.ifCond .eq 5, 3) := by decide +kernel
theorem dX9_lacking_22 : decode cX9_lacking 22 = .ok (.iload_n 2, 1) := by decide +kernel
theorem dX9_lacking_23 : decode cX9_lacking 23 = .ok (.ireturn, 1) := by decide +kernel
theorem dX9_lacking_24 : decode cX9_lacking 24 = .ok (.iinc 2 1, 3) := by decide +kernel
theorem dX9_lacking_27 : decode cX9_lacking 27 = .ok (.goto (-25), 3) := by decide +kernel
theorem dX9_lacking_30 : decode cX9_lacking 30 = .ok (.iconst (-1), 1) := by decide +kernel
theorem dX9_lacking_31 : decode cX9_lacking 31 = .ok (.ireturn, 1) := by decide +kernel
theorem dX9_chipOf_0 : decode cX9_chipOf 0 = .ok (.aload_n 0, 1) := by decide +kernel
theorem dX9_chipOf_1 : decode cX9_chipOf 1 = .ok (.iload_n 1, 1) := by decide +kernel
theorem dX9_chipOf_2 : decode cX9_chipOf 2 = .ok (.invokevirtual 199, 3) := by decide +kernel
theorem dX9_chipOf_5 : decode cX9_chipOf 5 = .ok (.ifCond .ne 5, 3) := by decide +kernel
theorem dX9_chipOf_8 : decode cX9_chipOf 8 = .ok (.iconst (-1), 1) := by decide +kernel
theorem dX9_chipOf_9 : decode cX9_chipOf 9 = .ok (.ireturn, 1) := by decide +kernel
theorem dX9_chipOf_10 : decode cX9_chipOf 10 = .ok (.iload_n 2, 1) := by decide +kernel
theorem dX9_chipOf_11 : decode cX9_chipOf 11 = .ok (.sipush 500, 3) := by decide +kernel
theorem dX9_chipOf_14 : decode cX9_chipOf 14 = .ok (.if_icmp .lt 31, 3) := by decide +kernel
theorem dX9_chipOf_17 : decode cX9_chipOf 17 = .ok (.iload_n 2, 1) := by decide +kernel
theorem dX9_chipOf_18 : decode cX9_chipOf 18 = .ok (.sipush 500, 3) := by decide +kernel
theorem dX9_chipOf_21 : decode cX9_chipOf 21 = .ok (.isub, 1) := by decide +kernel
theorem dX9_chipOf_22 : decode cX9_chipOf 22 = .ok (.aload_n 0, 1) := by decide +kernel
theorem dX9_chipOf_23 : decode cX9_chipOf 23 = .ok (.iload_n 1, 1) := by decide +kernel
theorem dX9_chipOf_24 : decode cX9_chipOf 24 = .ok (.invokevirtual 207, 3) := by decide +kernel
theorem dX9_chipOf_27 : decode cX9_chipOf 27 = .ok (.if_icmp .ge 16, 3) := by decide +kernel
theorem dX9_chipOf_30 : decode cX9_chipOf 30 = .ok (.aload_n 0, 1) := by decide +kernel
theorem dX9_chipOf_31 : decode cX9_chipOf 31 = .ok (.iload_n 1, 1) := by decide +kernel
theorem dX9_chipOf_32 : decode cX9_chipOf 32 = .ok (.iload_n 2, 1) := by decide +kernel
theorem dX9_chipOf_33 : decode cX9_chipOf 33 = .ok (.sipush 500, 3) := by decide +kernel
theorem dX9_chipOf_36 : decode cX9_chipOf 36 = .ok (.isub, 1) := by decide +kernel
theorem dX9_chipOf_37 : decode cX9_chipOf 37 = .ok (.invokevirtual 210, 3) := by decide +kernel
theorem dX9_chipOf_40 : decode cX9_chipOf 40 = .ok (.goto 4, 3) := by decide +kernel
theorem dX9_chipOf_43 : decode cX9_chipOf 43 = .ok (.iconst (-1), 1) := by decide +kernel
theorem dX9_chipOf_44 : decode cX9_chipOf 44 = .ok (.ireturn, 1) := by decide +kernel
theorem dX9_chipOf_45 : decode cX9_chipOf 45 = .ok (.iload_n 2, 1) := by decide +kernel
theorem dX9_chipOf_46 : decode cX9_chipOf 46 = .ok (.bipush 100, 2) := by decide +kernel
theorem dX9_chipOf_48 : decode cX9_chipOf 48 = .ok (.if_icmp .lt 87, 3) := by decide +kernel
theorem dX9_chipOf_51 : decode cX9_chipOf 51 = .ok (.iload_n 2, 1) := by decide +kernel
theorem dX9_chipOf_52 : decode cX9_chipOf 52 = .ok (.bipush 100, 2) := by decide +kernel
theorem dX9_chipOf_54 : decode cX9_chipOf 54 = .ok (.irem, 1) := by decide +kernel
theorem dX9_chipOf_55 : decode cX9_chipOf 55 = .ok (.istore_n 3, 1) := by decide +kernel
theorem dX9_chipOf_56 : decode cX9_chipOf 56 = .ok (.iload_n 3, 1) := by decide +kernel
theorem dX9_chipOf_57 : decode cX9_chipOf 57 = .ok (.aload_n 0, 1) := by decide +kernel
theorem dX9_chipOf_58 : decode cX9_chipOf 58 = .ok (.getfield 33, 3) := by decide +kernel
theorem dX9_chipOf_61 : decode cX9_chipOf 61 = .ok (.iload_n 1, 1) := by decide +kernel
theorem dX9_chipOf_62 : decode cX9_chipOf 62 = .ok (.iaload, 1) := by decide +kernel
theorem dX9_chipOf_63 : decode cX9_chipOf 63 = .ok (.if_icmp .lt 5, 3) := by decide +kernel
theorem dX9_chipOf_66 : decode cX9_chipOf 66 = .ok (.iconst (-1), 1) := by decide +kernel
theorem dX9_chipOf_67 : decode cX9_chipOf 67 = .ok (.ireturn, 1) := by decide +kernel
theorem dX9_chipOf_68 : decode cX9_chipOf 68 = .ok (.bipush 64, 2) := by decide +kernel
theorem dX9_chipOf_70 : decode cX9_chipOf 70 = .ok (.iload_n 1, 1) := by decide +kernel
theorem dX9_chipOf_71 : decode cX9_chipOf 71 = .ok (.imul, 1) := by decide +kernel
theorem dX9_chipOf_72 : decode cX9_chipOf 72 = .ok (.iload_n 3, 1) := by decide +kernel
theorem dX9_chipOf_73 : decode cX9_chipOf 73 = .ok (.iadd, 1) := by decide +kernel
theorem dX9_chipOf_74 : decode cX9_chipOf 74 = .ok (.istore 4, 2) := by decide +kernel
theorem dX9_chipOf_76 : decode cX9_chipOf 76 = .ok (.iload_n 2, 1) := by decide +kernel
theorem dX9_chipOf_77 : decode cX9_chipOf 77 = .ok (.sipush 200, 3) := by decide +kernel
theorem dX9_chipOf_80 : decode cX9_chipOf 80 = .ok (.if_icmp .ge 13, 3) := by decide +kernel
theorem dX9_chipOf_83 : decode cX9_chipOf 83 = .ok (.aload_n 0, 1) := by decide +kernel
theorem dX9_chipOf_84 : decode cX9_chipOf 84 = .ok (.getfield 64, 3) := by decide +kernel
theorem dX9_chipOf_87 : decode cX9_chipOf 87 = .ok (.iload 4, 2) := by decide +kernel
theorem dX9_chipOf_89 : decode cX9_chipOf 89 = .ok (.iaload, 1) := by decide +kernel
theorem dX9_chipOf_90 : decode cX9_chipOf 90 = .ok (.goto 44, 3) := by decide +kernel
theorem dX9_chipOf_93 : decode cX9_chipOf 93 = .ok (.iload_n 2, 1) := by decide +kernel
theorem dX9_chipOf_94 : decode cX9_chipOf 94 = .ok (.sipush 300, 3) := by decide +kernel
theorem dX9_chipOf_97 : decode cX9_chipOf 97 = .ok (.if_icmp .ge 13, 3) := by decide +kernel
theorem dX9_chipOf_100 : decode cX9_chipOf 100 = .ok (.aload_n 0, 1) := by decide +kernel
theorem dX9_chipOf_101 : decode cX9_chipOf 101 = .ok (.getfield 67, 3) := by decide +kernel
theorem dX9_chipOf_104 : decode cX9_chipOf 104 = .ok (.iload 4, 2) := by decide +kernel
theorem dX9_chipOf_106 : decode cX9_chipOf 106 = .ok (.iaload, 1) := by decide +kernel
theorem dX9_chipOf_107 : decode cX9_chipOf 107 = .ok (.goto 27, 3) := by decide +kernel
theorem dX9_chipOf_110 : decode cX9_chipOf 110 = .ok (.iload_n 2, 1) := by decide +kernel
theorem dX9_chipOf_111 : decode cX9_chipOf 111 = .ok (.sipush 400, 3) := by decide +kernel
theorem dX9_chipOf_114 : decode cX9_chipOf 114 = .ok (.if_icmp .ge 13, 3) := by decide +kernel
theorem dX9_chipOf_117 : decode cX9_chipOf 117 = .ok (.aload_n 0, 1) := by decide +kernel
theorem dX9_chipOf_118 : decode cX9_chipOf 118 = .ok (.getfield 70, 3) := by decide +kernel
theorem dX9_chipOf_121 : decode cX9_chipOf 121 = .ok (.iload 4, 2) := by decide +kernel
theorem dX9_chipOf_123 : decode cX9_chipOf 123 = .ok (.iaload, 1) := by decide +kernel
theorem dX9_chipOf_124 : decode cX9_chipOf 124 = .ok (.goto 10, 3) := by decide +kernel
theorem dX9_chipOf_127 : decode cX9_chipOf 127 = .ok (.aload_n 0, 1) := by decide +kernel
theorem dX9_chipOf_128 : decode cX9_chipOf 128 = .ok (.getfield 73, 3) := by decide +kernel
theorem dX9_chipOf_131 : decode cX9_chipOf 131 = .ok (.iload 4, 2) := by decide +kernel
theorem dX9_chipOf_133 : decode cX9_chipOf 133 = .ok (.iaload, 1) := by decide +kernel
theorem dX9_chipOf_134 : decode cX9_chipOf 134 = .ok (.ireturn, 1) := by decide +kernel
theorem dX9_chipOf_135 : decode cX9_chipOf 135 = .ok (.iload_n 2, 1) := by decide +kernel
theorem dX9_chipOf_136 : decode cX9_chipOf 136 = .ok (.tableswitch 88 0 4 #[36, 43, 49, 55, 62], 36) := by decide +kernel
theorem dX9_chipOf_172 : decode cX9_chipOf 172 = .ok (.aload_n 0, 1) := by decide +kernel
theorem dX9_chipOf_173 : decode cX9_chipOf 173 = .ok (.getfield 33, 3) := by decide +kernel
theorem dX9_chipOf_176 : decode cX9_chipOf 176 = .ok (.iload_n 1, 1) := by decide +kernel
theorem dX9_chipOf_177 : decode cX9_chipOf 177 = .ok (.iaload, 1) := by decide +kernel
theorem dX9_chipOf_178 : decode cX9_chipOf 178 = .ok (.ireturn, 1) := by decide +kernel
theorem dX9_chipOf_179 : decode cX9_chipOf 179 = .ok (.aload_n 0, 1) := by decide +kernel
theorem dX9_chipOf_180 : decode cX9_chipOf 180 = .ok (.iload_n 1, 1) := by decide +kernel
theorem dX9_chipOf_181 : decode cX9_chipOf 181 = .ok (.invokevirtual 207, 3) := by decide +kernel
theorem dX9_chipOf_184 : decode cX9_chipOf 184 = .ok (.ireturn, 1) := by decide +kernel
theorem dX9_chipOf_185 : decode cX9_chipOf 185 = .ok (.aload_n 0, 1) := by decide +kernel
theorem dX9_chipOf_186 : decode cX9_chipOf 186 = .ok (.iload_n 1, 1) := by decide +kernel
theorem dX9_chipOf_187 : decode cX9_chipOf 187 = .ok (.invokevirtual 213, 3) := by decide +kernel
theorem dX9_chipOf_190 : decode cX9_chipOf 190 = .ok (.ireturn, 1) := by decide +kernel
theorem dX9_chipOf_191 : decode cX9_chipOf 191 = .ok (.aload_n 0, 1) := by decide +kernel
theorem dX9_chipOf_192 : decode cX9_chipOf 192 = .ok (.getfield 57, 3) := by decide +kernel
theorem dX9_chipOf_195 : decode cX9_chipOf 195 = .ok (.iload_n 1, 1) := by decide +kernel
theorem dX9_chipOf_196 : decode cX9_chipOf 196 = .ok (.iaload, 1) := by decide +kernel
theorem dX9_chipOf_197 : decode cX9_chipOf 197 = .ok (.ireturn, 1) := by decide +kernel
theorem dX9_chipOf_198 : decode cX9_chipOf 198 = .ok (.aload_n 0, 1) := by decide +kernel
theorem dX9_chipOf_199 : decode cX9_chipOf 199 = .ok (.getfield 60, 3) := by decide +kernel
theorem dX9_chipOf_202 : decode cX9_chipOf 202 = .ok (.iload_n 1, 1) := by decide +kernel
theorem dX9_chipOf_203 : decode cX9_chipOf 203 = .ok (.laload, 1) := by decide +kernel
theorem dX9_chipOf_204 : decode cX9_chipOf 204 = .ok (.ldc2_w 216, 3) := by decide +kernel
theorem dX9_chipOf_207 : decode cX9_chipOf 207 = .ok (.lcmp, 1) := by decide +kernel
theorem dX9_chipOf_208 : decode cX9_chipOf 208 = .ok (.ifCond .le 8, 3) := by decide +kernel
theorem dX9_chipOf_211 : decode cX9_chipOf 211 = .ok (.ldc 218, 2) := by decide +kernel
theorem dX9_chipOf_213 : decode cX9_chipOf 213 = .ok (.goto 10, 3) := by decide +kernel
theorem dX9_chipOf_216 : decode cX9_chipOf 216 = .ok (.aload_n 0, 1) := by decide +kernel
theorem dX9_chipOf_217 : decode cX9_chipOf 217 = .ok (.getfield 60, 3) := by decide +kernel
theorem dX9_chipOf_220 : decode cX9_chipOf 220 = .ok (.iload_n 1, 1) := by decide +kernel
theorem dX9_chipOf_221 : decode cX9_chipOf 221 = .ok (.laload, 1) := by decide +kernel
theorem dX9_chipOf_222 : decode cX9_chipOf 222 = .ok (.l2i, 1) := by decide +kernel
theorem dX9_chipOf_223 : decode cX9_chipOf 223 = .ok (.ireturn, 1) := by decide +kernel
theorem dX9_chipOf_224 : decode cX9_chipOf 224 = .ok (.iconst (-1), 1) := by decide +kernel
theorem dX9_chipOf_225 : decode cX9_chipOf 225 = .ok (.ireturn, 1) := by decide +kernel
theorem dX9_pulse_0 : decode cX9_pulse 0 = .ok (.aload_n 0, 1) := by decide +kernel
theorem dX9_pulse_1 : decode cX9_pulse 1 = .ok (.getfield 60, 3) := by decide +kernel
theorem dX9_pulse_4 : decode cX9_pulse 4 = .ok (.iload_n 1, 1) := by decide +kernel
theorem dX9_pulse_5 : decode cX9_pulse 5 = .ok (.dup2, 1) := by decide +kernel
theorem dX9_pulse_6 : decode cX9_pulse 6 = .ok (.laload, 1) := by decide +kernel
theorem dX9_pulse_7 : decode cX9_pulse 7 = .ok (.lconst 1, 1) := by decide +kernel
theorem dX9_pulse_8 : decode cX9_pulse 8 = .ok (.ladd, 1) := by decide +kernel
theorem dX9_pulse_9 : decode cX9_pulse 9 = .ok (.lastore, 1) := by decide +kernel
theorem dX9_pulse_10 : decode cX9_pulse 10 = .ok (.iload 4, 2) := by decide +kernel
theorem dX9_pulse_12 : decode cX9_pulse 12 = .ok (.aload_n 0, 1) := by decide +kernel
theorem dX9_pulse_13 : decode cX9_pulse 13 = .ok (.getfield 42, 3) := by decide +kernel
theorem dX9_pulse_16 : decode cX9_pulse 16 = .ok (.iload_n 1, 1) := by decide +kernel
theorem dX9_pulse_17 : decode cX9_pulse 17 = .ok (.iaload, 1) := by decide +kernel
theorem dX9_pulse_18 : decode cX9_pulse 18 = .ok (.if_icmp .ge 4, 3) := by decide +kernel
theorem dX9_pulse_21 : decode cX9_pulse 21 = .ok (.return_, 1) := by decide +kernel
theorem dX9_pulse_22 : decode cX9_pulse 22 = .ok (.bipush 64, 2) := by decide +kernel
theorem dX9_pulse_24 : decode cX9_pulse 24 = .ok (.iload_n 1, 1) := by decide +kernel
theorem dX9_pulse_25 : decode cX9_pulse 25 = .ok (.imul, 1) := by decide +kernel
theorem dX9_pulse_26 : decode cX9_pulse 26 = .ok (.iload_n 2, 1) := by decide +kernel
theorem dX9_pulse_27 : decode cX9_pulse 27 = .ok (.iadd, 1) := by decide +kernel
theorem dX9_pulse_28 : decode cX9_pulse 28 = .ok (.istore 5, 2) := by decide +kernel
theorem dX9_pulse_30 : decode cX9_pulse 30 = .ok (.aload_n 0, 1) := by decide +kernel
theorem dX9_pulse_31 : decode cX9_pulse 31 = .ok (.getfield 73, 3) := by decide +kernel
theorem dX9_pulse_34 : decode cX9_pulse 34 = .ok (.iload 5, 2) := by decide +kernel
theorem dX9_pulse_36 : decode cX9_pulse 36 = .ok (.aload_n 0, 1) := by decide +kernel
theorem dX9_pulse_37 : decode cX9_pulse 37 = .ok (.getfield 76, 3) := by decide +kernel
theorem dX9_pulse_40 : decode cX9_pulse 40 = .ok (.iload 5, 2) := by decide +kernel
theorem dX9_pulse_42 : decode cX9_pulse 42 = .ok (.iaload, 1) := by decide +kernel
theorem dX9_pulse_43 : decode cX9_pulse 43 = .ok (.iload_n 3, 1) := by decide +kernel
theorem dX9_pulse_44 : decode cX9_pulse 44 = .ok (.if_icmp .ne 15, 3) := by decide +kernel
theorem dX9_pulse_47 : decode cX9_pulse 47 = .ok (.aload_n 0, 1) := by decide +kernel
theorem dX9_pulse_48 : decode cX9_pulse 48 = .ok (.getfield 73, 3) := by decide +kernel
theorem dX9_pulse_51 : decode cX9_pulse 51 = .ok (.iload 5, 2) := by decide +kernel
theorem dX9_pulse_53 : decode cX9_pulse 53 = .ok (.iaload, 1) := by decide +kernel
theorem dX9_pulse_54 : decode cX9_pulse 54 = .ok (.iconst 1, 1) := by decide +kernel
theorem dX9_pulse_55 : decode cX9_pulse 55 = .ok (.iadd, 1) := by decide +kernel
theorem dX9_pulse_56 : decode cX9_pulse 56 = .ok (.goto 4, 3) := by decide +kernel
theorem dX9_pulse_59 : decode cX9_pulse 59 = .ok (.iconst 1, 1) := by decide +kernel
theorem dX9_pulse_60 : decode cX9_pulse 60 = .ok (.iastore, 1) := by decide +kernel
theorem dX9_pulse_61 : decode cX9_pulse 61 = .ok (.aload_n 0, 1) := by decide +kernel
theorem dX9_pulse_62 : decode cX9_pulse 62 = .ok (.getfield 76, 3) := by decide +kernel
theorem dX9_pulse_65 : decode cX9_pulse 65 = .ok (.iload 5, 2) := by decide +kernel
theorem dX9_pulse_67 : decode cX9_pulse 67 = .ok (.iload_n 3, 1) := by decide +kernel
theorem dX9_pulse_68 : decode cX9_pulse 68 = .ok (.iastore, 1) := by decide +kernel
theorem dX9_pulse_69 : decode cX9_pulse 69 = .ok (.aload_n 0, 1) := by decide +kernel
theorem dX9_pulse_70 : decode cX9_pulse 70 = .ok (.getfield 73, 3) := by decide +kernel
theorem dX9_pulse_73 : decode cX9_pulse 73 = .ok (.iload 5, 2) := by decide +kernel
theorem dX9_pulse_75 : decode cX9_pulse 75 = .ok (.iaload, 1) := by decide +kernel
theorem dX9_pulse_76 : decode cX9_pulse 76 = .ok (.aload_n 0, 1) := by decide +kernel
theorem dX9_pulse_77 : decode cX9_pulse 77 = .ok (.getfield 70, 3) := by decide +kernel
theorem dX9_pulse_80 : decode cX9_pulse 80 = .ok (.iload 5, 2) := by decide +kernel
theorem dX9_pulse_82 : decode cX9_pulse 82 = .ok (.iaload, 1) := by decide +kernel
theorem dX9_pulse_83 : decode cX9_pulse 83 = .ok (.if_icmp .lt 14, 3) := by decide +kernel
theorem dX9_pulse_86 : decode cX9_pulse 86 = .ok (.aload_n 0, 1) := by decide +kernel
theorem dX9_pulse_87 : decode cX9_pulse 87 = .ok (.getfield 64, 3) := by decide +kernel
theorem dX9_pulse_90 : decode cX9_pulse 90 = .ok (.iload 5, 2) := by decide +kernel
theorem dX9_pulse_92 : decode cX9_pulse 92 = .ok (.dup2, 1) := by decide +kernel
theorem dX9_pulse_93 : decode cX9_pulse 93 = .ok (.iaload, 1) := by decide +kernel
theorem dX9_pulse_94 : decode cX9_pulse 94 = .ok (.iload_n 3, 1) := by decide +kernel
theorem dX9_pulse_95 : decode cX9_pulse 95 = .ok (.iand, 1) := by decide +kernel
theorem dX9_pulse_96 : decode cX9_pulse 96 = .ok (.iastore, 1) := by decide +kernel
theorem dX9_pulse_97 : decode cX9_pulse 97 = .ok (.aload_n 0, 1) := by decide +kernel
theorem dX9_pulse_98 : decode cX9_pulse 98 = .ok (.getfield 73, 3) := by decide +kernel
theorem dX9_pulse_101 : decode cX9_pulse 101 = .ok (.iload 5, 2) := by decide +kernel
theorem dX9_pulse_103 : decode cX9_pulse 103 = .ok (.iaload, 1) := by decide +kernel
theorem dX9_pulse_104 : decode cX9_pulse 104 = .ok (.aload_n 0, 1) := by decide +kernel
theorem dX9_pulse_105 : decode cX9_pulse 105 = .ok (.getfield 70, 3) := by decide +kernel
theorem dX9_pulse_108 : decode cX9_pulse 108 = .ok (.iload 5, 2) := by decide +kernel
theorem dX9_pulse_110 : decode cX9_pulse 110 = .ok (.iaload, 1) := by decide +kernel
theorem dX9_pulse_111 : decode cX9_pulse 111 = .ok (.aload_n 0, 1) := by decide +kernel
theorem dX9_pulse_112 : decode cX9_pulse 112 = .ok (.getfield 51, 3) := by decide +kernel
theorem dX9_pulse_115 : decode cX9_pulse 115 = .ok (.iload_n 1, 1) := by decide +kernel
theorem dX9_pulse_116 : decode cX9_pulse 116 = .ok (.iaload, 1) := by decide +kernel
theorem dX9_pulse_117 : decode cX9_pulse 117 = .ok (.iadd, 1) := by decide +kernel
theorem dX9_pulse_118 : decode cX9_pulse 118 = .ok (.if_icmp .lt 14, 3) := by decide +kernel
theorem dX9_pulse_121 : decode cX9_pulse 121 = .ok (.aload_n 0, 1) := by decide +kernel
theorem dX9_pulse_122 : decode cX9_pulse 122 = .ok (.getfield 67, 3) := by decide +kernel
theorem dX9_pulse_125 : decode cX9_pulse 125 = .ok (.iload 5, 2) := by decide +kernel
theorem dX9_pulse_127 : decode cX9_pulse 127 = .ok (.dup2, 1) := by decide +kernel
theorem dX9_pulse_128 : decode cX9_pulse 128 = .ok (.iaload, 1) := by decide +kernel
theorem dX9_pulse_129 : decode cX9_pulse 129 = .ok (.iload_n 3, 1) := by decide +kernel
theorem dX9_pulse_130 : decode cX9_pulse 130 = .ok (.iand, 1) := by decide +kernel
theorem dX9_pulse_131 : decode cX9_pulse 131 = .ok (.iastore, 1) := by decide +kernel
theorem dX9_pulse_132 : decode cX9_pulse 132 = .ok (.return_, 1) := by decide +kernel
theorem dX9_see_0 : decode cX9_see 0 = .ok (.iload_n 1, 1) := by decide +kernel
theorem dX9_see_1 : decode cX9_see 1 = .ok (.aload_n 0, 1) := by decide +kernel
theorem dX9_see_2 : decode cX9_see 2 = .ok (.getfield 130, 3) := by decide +kernel
theorem dX9_see_5 : decode cX9_see 5 = .ok (.if_icmp .ge 12, 3) := by decide +kernel
theorem dX9_see_8 : decode cX9_see 8 = .ok (.aload_n 0, 1) := by decide +kernel
theorem dX9_see_9 : decode cX9_see 9 = .ok (.getfield 13, 3) := by decide +kernel
theorem dX9_see_12 : decode cX9_see 12 = .ok (.iload_n 1, 1) := by decide +kernel
theorem dX9_see_13 : decode cX9_see 13 = .ok (.iaload, 1) := by decide +kernel
theorem dX9_see_14 : decode cX9_see 14 = .ok (.goto 4, 3) := by decide +kernel
theorem dX9_see_17 : decode cX9_see 17 = .ok (.iconst (-1), 1) := by decide +kernel
theorem dX9_see_18 : decode cX9_see 18 = .ok (.ireturn, 1) := by decide +kernel
theorem dX9_isLetter_0 : decode cX9_isLetter 0 = .ok (.iload_n 0, 1) := by decide +kernel
theorem dX9_isLetter_1 : decode cX9_isLetter 1 = .ok (.bipush 97, 2) := by decide +kernel
theorem dX9_isLetter_3 : decode cX9_isLetter 3 = .ok (.bipush 122, 2) := by decide +kernel
theorem dX9_isLetter_5 : decode cX9_isLetter 5 = .ok (.invokestatic 137, 3) := by decide +kernel
theorem dX9_isLetter_8 : decode cX9_isLetter 8 = .ok (.ifCond .ne 14, 3) := by decide +kernel
theorem dX9_isLetter_11 : decode cX9_isLetter 11 = .ok (.iload_n 0, 1) := by decide +kernel
theorem dX9_isLetter_12 : decode cX9_isLetter 12 = .ok (.bipush 65, 2) := by decide +kernel
theorem dX9_isLetter_14 : decode cX9_isLetter 14 = .ok (.bipush 90, 2) := by decide +kernel
theorem dX9_isLetter_16 : decode cX9_isLetter 16 = .ok (.invokestatic 137, 3) := by decide +kernel
theorem dX9_isLetter_19 : decode cX9_isLetter 19 = .ok (.ifCond .eq 7, 3) := by decide +kernel
theorem dX9_isLetter_22 : decode cX9_isLetter 22 = .ok (.iconst 1, 1) := by decide +kernel
theorem dX9_isLetter_23 : decode cX9_isLetter 23 = .ok (.goto 4, 3) := by decide +kernel
theorem dX9_isLetter_26 : decode cX9_isLetter 26 = .ok (.iconst 0, 1) := by decide +kernel
theorem dX9_isLetter_27 : decode cX9_isLetter 27 = .ok (.ireturn, 1) := by decide +kernel
theorem dX9_isDigit_0 : decode cX9_isDigit 0 = .ok (.iload_n 0, 1) := by decide +kernel
theorem dX9_isDigit_1 : decode cX9_isDigit 1 = .ok (.bipush 48, 2) := by decide +kernel
theorem dX9_isDigit_3 : decode cX9_isDigit 3 = .ok (.bipush 57, 2) := by decide +kernel
theorem dX9_isDigit_5 : decode cX9_isDigit 5 = .ok (.invokestatic 137, 3) := by decide +kernel
theorem dX9_isDigit_8 : decode cX9_isDigit 8 = .ok (.ireturn, 1) := by decide +kernel
theorem dX9_add_0 : decode cX9_add 0 = .ok (.lload_n 0, 1) := by decide +kernel
theorem dX9_add_1 : decode cX9_add 1 = .ok (.bipush 8, 2) := by decide +kernel
theorem dX9_add_3 : decode cX9_add 3 = .ok (.lshl, 1) := by decide +kernel
theorem dX9_add_4 : decode cX9_add 4 = .ok (.iload_n 2, 1) := by decide +kernel
theorem dX9_add_5 : decode cX9_add 5 = .ok (.i2l, 1) := by decide +kernel
theorem dX9_add_6 : decode cX9_add 6 = .ok (.lor, 1) := by decide +kernel
theorem dX9_add_7 : decode cX9_add 7 = .ok (.bipush 8, 2) := by decide +kernel
theorem dX9_add_9 : decode cX9_add 9 = .ok (.lshl, 1) := by decide +kernel
theorem dX9_add_10 : decode cX9_add 10 = .ok (.iload_n 3, 1) := by decide +kernel
theorem dX9_add_11 : decode cX9_add 11 = .ok (.i2l, 1) := by decide +kernel
theorem dX9_add_12 : decode cX9_add 12 = .ok (.lor, 1) := by decide +kernel
theorem dX9_add_13 : decode cX9_add 13 = .ok (.lreturn, 1) := by decide +kernel
theorem dX9_wordOf_0 : decode cX9_wordOf 0 = .ok (.lload_n 0, 1) := by decide +kernel
theorem dX9_wordOf_1 : decode cX9_wordOf 1 = .ok (.lconst 0, 1) := by decide +kernel
theorem dX9_wordOf_2 : decode cX9_wordOf 2 = .ok (.bipush 118, 2) := by decide +kernel
theorem dX9_wordOf_4 : decode cX9_wordOf 4 = .ok (.bipush 111, 2) := by decide +kernel
theorem dX9_wordOf_6 : decode cX9_wordOf 6 = .ok (.invokestatic 219, 3) := by decide +kernel
theorem dX9_wordOf_9 : decode cX9_wordOf 9 = .ok (.bipush 108, 2) := by decide +kernel
theorem dX9_wordOf_11 : decode cX9_wordOf 11 = .ok (.bipush 116, 2) := by decide +kernel
theorem dX9_wordOf_13 : decode cX9_wordOf 13 = .ok (.invokestatic 219, 3) := by decide +kernel
theorem dX9_wordOf_16 : decode cX9_wordOf 16 = .ok (.lcmp, 1) := by decide +kernel
theorem dX9_wordOf_17 : decode cX9_wordOf 17 = .ok (.ifCond .ne 6, 3) := by decide +kernel
theorem dX9_wordOf_20 : decode cX9_wordOf 20 = .ok (.bipush 6, 2) := by decide +kernel
theorem dX9_wordOf_22 : decode cX9_wordOf 22 = .ok (.ireturn, 1) := by decide +kernel
theorem dX9_wordOf_23 : decode cX9_wordOf 23 = .ok (.lload_n 0, 1) := by decide +kernel
theorem dX9_wordOf_24 : decode cX9_wordOf 24 = .ok (.ldc2_w 223, 3) := by decide +kernel
theorem dX9_wordOf_27 : decode cX9_wordOf 27 = .ok (.bipush 117, 2) := by decide +kernel
theorem dX9_wordOf_29 : decode cX9_wordOf 29 = .ok (.bipush 108, 2) := by decide +kernel
theorem dX9_wordOf_31 : decode cX9_wordOf 31 = .ok (.invokestatic 219, 3) := by decide +kernel
theorem dX9_wordOf_34 : decode cX9_wordOf 34 = .ok (.bipush 115, 2) := by decide +kernel
theorem dX9_wordOf_36 : decode cX9_wordOf 36 = .ok (.bipush 101, 2) := by decide +kernel
theorem dX9_wordOf_38 : decode cX9_wordOf 38 = .ok (.invokestatic 219, 3) := by decide +kernel
theorem dX9_wordOf_41 : decode cX9_wordOf 41 = .ok (.lcmp, 1) := by decide +kernel
theorem dX9_wordOf_42 : decode cX9_wordOf 42 = .ok (.ifCond .ne 6, 3) := by decide +kernel
theorem dX9_wordOf_45 : decode cX9_wordOf 45 = .ok (.bipush 7, 2) := by decide +kernel
theorem dX9_wordOf_47 : decode cX9_wordOf 47 = .ok (.ireturn, 1) := by decide +kernel
theorem dX9_wordOf_48 : decode cX9_wordOf 48 = .ok (.lload_n 0, 1) := by decide +kernel
theorem dX9_wordOf_49 : decode cX9_wordOf 49 = .ok (.lconst 0, 1) := by decide +kernel
theorem dX9_wordOf_50 : decode cX9_wordOf 50 = .ok (.bipush 118, 2) := by decide +kernel
theorem dX9_wordOf_52 : decode cX9_wordOf 52 = .ok (.bipush 101, 2) := by decide +kernel
theorem dX9_wordOf_54 : decode cX9_wordOf 54 = .ok (.invokestatic 219, 3) := by decide +kernel
theorem dX9_wordOf_57 : decode cX9_wordOf 57 = .ok (.bipush 114, 2) := by decide +kernel
theorem dX9_wordOf_59 : decode cX9_wordOf 59 = .ok (.bipush 105, 2) := by decide +kernel
theorem dX9_wordOf_61 : decode cX9_wordOf 61 = .ok (.invokestatic 219, 3) := by decide +kernel
theorem dX9_wordOf_64 : decode cX9_wordOf 64 = .ok (.bipush 102, 2) := by decide +kernel
theorem dX9_wordOf_66 : decode cX9_wordOf 66 = .ok (.bipush 121, 2) := by decide +kernel
theorem dX9_wordOf_68 : decode cX9_wordOf 68 = .ok (.invokestatic 219, 3) := by decide +kernel
theorem dX9_wordOf_71 : decode cX9_wordOf 71 = .ok (.lcmp, 1) := by decide +kernel
theorem dX9_wordOf_72 : decode cX9_wordOf 72 = .ok (.ifCond .ne 6, 3) := by decide +kernel
theorem dX9_wordOf_75 : decode cX9_wordOf 75 = .ok (.bipush 8, 2) := by decide +kernel
theorem dX9_wordOf_77 : decode cX9_wordOf 77 = .ok (.ireturn, 1) := by decide +kernel
theorem dX9_wordOf_78 : decode cX9_wordOf 78 = .ok (.lload_n 0, 1) := by decide +kernel
theorem dX9_wordOf_79 : decode cX9_wordOf 79 = .ok (.ldc2_w 225, 3) := by decide +kernel
theorem dX9_wordOf_82 : decode cX9_wordOf 82 = .ok (.bipush 114, 2) := by decide +kernel
theorem dX9_wordOf_84 : decode cX9_wordOf 84 = .ok (.bipush 121, 2) := by decide +kernel
theorem dX9_wordOf_86 : decode cX9_wordOf 86 = .ok (.invokestatic 219, 3) := by decide +kernel
theorem dX9_wordOf_89 : decode cX9_wordOf 89 = .ok (.lcmp, 1) := by decide +kernel
theorem dX9_wordOf_90 : decode cX9_wordOf 90 = .ok (.ifCond .ne 6, 3) := by decide +kernel
theorem dX9_wordOf_93 : decode cX9_wordOf 93 = .ok (.bipush 9, 2) := by decide +kernel
theorem dX9_wordOf_95 : decode cX9_wordOf 95 = .ok (.ireturn, 1) := by decide +kernel
theorem dX9_wordOf_96 : decode cX9_wordOf 96 = .ok (.lload_n 0, 1) := by decide +kernel
theorem dX9_wordOf_97 : decode cX9_wordOf 97 = .ok (.lconst 0, 1) := by decide +kernel
theorem dX9_wordOf_98 : decode cX9_wordOf 98 = .ok (.bipush 111, 2) := by decide +kernel
theorem dX9_wordOf_100 : decode cX9_wordOf 100 = .ok (.bipush 107, 2) := by decide +kernel
theorem dX9_wordOf_102 : decode cX9_wordOf 102 = .ok (.invokestatic 219, 3) := by decide +kernel
theorem dX9_wordOf_105 : decode cX9_wordOf 105 = .ok (.lcmp, 1) := by decide +kernel
theorem dX9_wordOf_106 : decode cX9_wordOf 106 = .ok (.ifCond .ne 6, 3) := by decide +kernel
theorem dX9_wordOf_109 : decode cX9_wordOf 109 = .ok (.bipush 10, 2) := by decide +kernel
theorem dX9_wordOf_111 : decode cX9_wordOf 111 = .ok (.ireturn, 1) := by decide +kernel
theorem dX9_wordOf_112 : decode cX9_wordOf 112 = .ok (.lload_n 0, 1) := by decide +kernel
theorem dX9_wordOf_113 : decode cX9_wordOf 113 = .ok (.lconst 0, 1) := by decide +kernel
theorem dX9_wordOf_114 : decode cX9_wordOf 114 = .ok (.bipush 101, 2) := by decide +kernel
theorem dX9_wordOf_116 : decode cX9_wordOf 116 = .ok (.bipush 108, 2) := by decide +kernel
theorem dX9_wordOf_118 : decode cX9_wordOf 118 = .ok (.invokestatic 219, 3) := by decide +kernel
theorem dX9_wordOf_121 : decode cX9_wordOf 121 = .ok (.bipush 115, 2) := by decide +kernel
theorem dX9_wordOf_123 : decode cX9_wordOf 123 = .ok (.bipush 101, 2) := by decide +kernel
theorem dX9_wordOf_125 : decode cX9_wordOf 125 = .ok (.invokestatic 219, 3) := by decide +kernel
theorem dX9_wordOf_128 : decode cX9_wordOf 128 = .ok (.lcmp, 1) := by decide +kernel
theorem dX9_wordOf_129 : decode cX9_wordOf 129 = .ok (.ifCond .ne 8, 3) := by decide +kernel
theorem dX9_wordOf_132 : decode cX9_wordOf 132 = .ok (.bipush 11, 2) := by decide +kernel
theorem dX9_wordOf_134 : decode cX9_wordOf 134 = .ok (.goto 4, 3) := by decide +kernel
theorem dX9_wordOf_137 : decode cX9_wordOf 137 = .ok (.iconst 5, 1) := by decide +kernel
theorem dX9_wordOf_138 : decode cX9_wordOf 138 = .ok (.ireturn, 1) := by decide +kernel
theorem dX9_nextToken_0 : decode cX9_nextToken 0 = .ok (.aload_n 0, 1) := by decide +kernel
theorem dX9_nextToken_1 : decode cX9_nextToken 1 = .ok (.aload_n 0, 1) := by decide +kernel
theorem dX9_nextToken_2 : decode cX9_nextToken 2 = .ok (.getfield 227, 3) := by decide +kernel
theorem dX9_nextToken_5 : decode cX9_nextToken 5 = .ok (.invokevirtual 230, 3) := by decide +kernel
theorem dX9_nextToken_8 : decode cX9_nextToken 8 = .ok (.bipush 32, 2) := by decide +kernel
theorem dX9_nextToken_10 : decode cX9_nextToken 10 = .ok (.if_icmp .eq 16, 3) := by decide +kernel
theorem dX9_nextToken_13 : decode cX9_nextToken 13 = .ok (.aload_n 0, 1) := by decide +kernel
theorem dX9_nextToken_14 : decode cX9_nextToken 14 = .ok (.aload_n 0, 1) := by decide +kernel
theorem dX9_nextToken_15 : decode cX9_nextToken 15 = .ok (.getfield 227, 3) := by decide +kernel
theorem dX9_nextToken_18 : decode cX9_nextToken 18 = .ok (.invokevirtual 230, 3) := by decide +kernel
theorem dX9_nextToken_21 : decode cX9_nextToken 21 = .ok (.bipush 10, 2) := by decide +kernel
theorem dX9_nextToken_23 : decode cX9_nextToken 23 = .ok (.if_icmp .ne 16, 3) := by decide +kernel
theorem dX9_nextToken_26 : decode cX9_nextToken 26 = .ok (.aload_n 0, 1) := by decide +kernel
theorem dX9_nextToken_27 : decode cX9_nextToken 27 = .ok (.dup, 1) := by decide +kernel
theorem dX9_nextToken_28 : decode cX9_nextToken 28 = .ok (.getfield 227, 3) := by decide +kernel
theorem dX9_nextToken_31 : decode cX9_nextToken 31 = .ok (.iconst 1, 1) := by decide +kernel
theorem dX9_nextToken_32 : decode cX9_nextToken 32 = .ok (.iadd, 1) := by decide +kernel
theorem dX9_nextToken_33 : decode cX9_nextToken 33 = .ok (.putfield 227, 3) := by decide +kernel
theorem dX9_nextToken_36 : decode cX9_nextToken 36 = .ok (.goto (-36), 3) := by decide +kernel
theorem dX9_nextToken_39 : decode cX9_nextToken 39 = .ok (.aload_n 0, 1) := by decide +kernel
theorem dX9_nextToken_40 : decode cX9_nextToken 40 = .ok (.aload_n 0, 1) := by decide +kernel
theorem dX9_nextToken_41 : decode cX9_nextToken 41 = .ok (.getfield 227, 3) := by decide +kernel
theorem dX9_nextToken_44 : decode cX9_nextToken 44 = .ok (.putfield 233, 3) := by decide +kernel
theorem dX9_nextToken_47 : decode cX9_nextToken 47 = .ok (.aload_n 0, 1) := by decide +kernel
theorem dX9_nextToken_48 : decode cX9_nextToken 48 = .ok (.aload_n 0, 1) := by decide +kernel
theorem dX9_nextToken_49 : decode cX9_nextToken 49 = .ok (.getfield 227, 3) := by decide +kernel
theorem dX9_nextToken_52 : decode cX9_nextToken 52 = .ok (.invokevirtual 230, 3) := by decide +kernel
theorem dX9_nextToken_55 : decode cX9_nextToken 55 = .ok (.istore_n 1, 1) := by decide +kernel
theorem dX9_nextToken_56 : decode cX9_nextToken 56 = .ok (.iload_n 1, 1) := by decide +kernel
theorem dX9_nextToken_57 : decode cX9_nextToken 57 = .ok (.ifCond .ge 11, 3) := by decide +kernel
theorem dX9_nextToken_60 : decode cX9_nextToken 60 = .ok (.aload_n 0, 1) := by decide +kernel
theorem dX9_nextToken_61 : decode cX9_nextToken 61 = .ok (.iconst 0, 1) := by decide +kernel
theorem dX9_nextToken_62 : decode cX9_nextToken 62 = .ok (.putfield 236, 3) := by decide +kernel
theorem dX9_nextToken_65 : decode cX9_nextToken 65 = .ok (.goto 218, 3) := by decide +kernel
theorem dX9_nextToken_68 : decode cX9_nextToken 68 = .ok (.iload_n 1, 1) := by decide +kernel
theorem dX9_nextToken_69 : decode cX9_nextToken 69 = .ok (.invokestatic 239, 3) := by decide +kernel
theorem dX9_nextToken_72 : decode cX9_nextToken 72 = .ok (.ifCond .eq 72, 3) := by decide +kernel
theorem dX9_nextToken_75 : decode cX9_nextToken 75 = .ok (.aload_n 0, 1) := by decide +kernel
theorem dX9_nextToken_76 : decode cX9_nextToken 76 = .ok (.iconst 1, 1) := by decide +kernel
theorem dX9_nextToken_77 : decode cX9_nextToken 77 = .ok (.putfield 236, 3) := by decide +kernel
theorem dX9_nextToken_80 : decode cX9_nextToken 80 = .ok (.aload_n 0, 1) := by decide +kernel
theorem dX9_nextToken_81 : decode cX9_nextToken 81 = .ok (.iconst 0, 1) := by decide +kernel
theorem dX9_nextToken_82 : decode cX9_nextToken 82 = .ok (.putfield 242, 3) := by decide +kernel
theorem dX9_nextToken_85 : decode cX9_nextToken 85 = .ok (.aload_n 0, 1) := by decide +kernel
theorem dX9_nextToken_86 : decode cX9_nextToken 86 = .ok (.aload_n 0, 1) := by decide +kernel
theorem dX9_nextToken_87 : decode cX9_nextToken 87 = .ok (.getfield 227, 3) := by decide +kernel
theorem dX9_nextToken_90 : decode cX9_nextToken 90 = .ok (.invokevirtual 230, 3) := by decide +kernel
theorem dX9_nextToken_93 : decode cX9_nextToken 93 = .ok (.invokestatic 239, 3) := by decide +kernel
theorem dX9_nextToken_96 : decode cX9_nextToken 96 = .ok (.ifCond .eq 187, 3) := by decide +kernel
theorem dX9_nextToken_99 : decode cX9_nextToken 99 = .ok (.aload_n 0, 1) := by decide +kernel
theorem dX9_nextToken_100 : decode cX9_nextToken 100 = .ok (.getfield 242, 3) := by decide +kernel
theorem dX9_nextToken_103 : decode cX9_nextToken 103 = .ok (.ldc 245, 2) := by decide +kernel
theorem dX9_nextToken_105 : decode cX9_nextToken 105 = .ok (.if_icmp .ge 26, 3) := by decide +kernel
theorem dX9_nextToken_108 : decode cX9_nextToken 108 = .ok (.aload_n 0, 1) := by decide +kernel
theorem dX9_nextToken_109 : decode cX9_nextToken 109 = .ok (.bipush 10, 2) := by decide +kernel
theorem dX9_nextToken_111 : decode cX9_nextToken 111 = .ok (.aload_n 0, 1) := by decide +kernel
theorem dX9_nextToken_112 : decode cX9_nextToken 112 = .ok (.getfield 242, 3) := by decide +kernel
theorem dX9_nextToken_115 : decode cX9_nextToken 115 = .ok (.imul, 1) := by decide +kernel
theorem dX9_nextToken_116 : decode cX9_nextToken 116 = .ok (.aload_n 0, 1) := by decide +kernel
theorem dX9_nextToken_117 : decode cX9_nextToken 117 = .ok (.aload_n 0, 1) := by decide +kernel
theorem dX9_nextToken_118 : decode cX9_nextToken 118 = .ok (.getfield 227, 3) := by decide +kernel
theorem dX9_nextToken_121 : decode cX9_nextToken 121 = .ok (.invokevirtual 230, 3) := by decide +kernel
theorem dX9_nextToken_124 : decode cX9_nextToken 124 = .ok (.iadd, 1) := by decide +kernel
theorem dX9_nextToken_125 : decode cX9_nextToken 125 = .ok (.bipush 48, 2) := by decide +kernel
theorem dX9_nextToken_127 : decode cX9_nextToken 127 = .ok (.isub, 1) := by decide +kernel
theorem dX9_nextToken_128 : decode cX9_nextToken 128 = .ok (.putfield 242, 3) := by decide +kernel
theorem dX9_nextToken_131 : decode cX9_nextToken 131 = .ok (.aload_n 0, 1) := by decide +kernel
theorem dX9_nextToken_132 : decode cX9_nextToken 132 = .ok (.dup, 1) := by decide +kernel
theorem dX9_nextToken_133 : decode cX9_nextToken 133 = .ok (.getfield 227, 3) := by decide +kernel
theorem dX9_nextToken_136 : decode cX9_nextToken 136 = .ok (.iconst 1, 1) := by decide +kernel
theorem dX9_nextToken_137 : decode cX9_nextToken 137 = .ok (.iadd, 1) := by decide +kernel
theorem dX9_nextToken_138 : decode cX9_nextToken 138 = .ok (.putfield 227, 3) := by decide +kernel
theorem dX9_nextToken_141 : decode cX9_nextToken 141 = .ok (.goto (-56), 3) := by decide +kernel
theorem dX9_nextToken_144 : decode cX9_nextToken 144 = .ok (.iload_n 1, 1) := by decide +kernel
theorem dX9_nextToken_145 : decode cX9_nextToken 145 = .ok (.invokestatic 246, 3) := by decide +kernel
theorem dX9_nextToken_148 : decode cX9_nextToken 148 = .ok (.ifCond .eq 90, 3) := by decide +kernel
theorem dX9_nextToken_151 : decode cX9_nextToken 151 = .ok (.lconst 0, 1) := by decide +kernel
theorem dX9_nextToken_152 : decode cX9_nextToken 152 = .ok (.lstore_n 2, 1) := by decide +kernel
theorem dX9_nextToken_153 : decode cX9_nextToken 153 = .ok (.aload_n 0, 1) := by decide +kernel
theorem dX9_nextToken_154 : decode cX9_nextToken 154 = .ok (.aload_n 0, 1) := by decide +kernel
theorem dX9_nextToken_155 : decode cX9_nextToken 155 = .ok (.getfield 227, 3) := by decide +kernel
theorem dX9_nextToken_158 : decode cX9_nextToken 158 = .ok (.invokevirtual 230, 3) := by decide +kernel
theorem dX9_nextToken_161 : decode cX9_nextToken 161 = .ok (.invokestatic 246, 3) := by decide +kernel
theorem dX9_nextToken_164 : decode cX9_nextToken 164 = .ok (.ifCond .eq 45, 3) := by decide +kernel
theorem dX9_nextToken_167 : decode cX9_nextToken 167 = .ok (.aload_n 0, 1) := by decide +kernel
theorem dX9_nextToken_168 : decode cX9_nextToken 168 = .ok (.getfield 227, 3) := by decide +kernel
theorem dX9_nextToken_171 : decode cX9_nextToken 171 = .ok (.aload_n 0, 1) := by decide +kernel
theorem dX9_nextToken_172 : decode cX9_nextToken 172 = .ok (.getfield 233, 3) := by decide +kernel
theorem dX9_nextToken_175 : decode cX9_nextToken 175 = .ok (.isub, 1) := by decide +kernel
theorem dX9_nextToken_176 : decode cX9_nextToken 176 = .ok (.bipush 7, 2) := by decide +kernel
theorem dX9_nextToken_178 : decode cX9_nextToken 178 = .ok (.if_icmp .ge 18, 3) := by decide +kernel
theorem dX9_nextToken_181 : decode cX9_nextToken 181 = .ok (.lload_n 2, 1) := by decide +kernel
theorem dX9_nextToken_182 : decode cX9_nextToken 182 = .ok (.bipush 8, 2) := by decide +kernel
theorem dX9_nextToken_184 : decode cX9_nextToken 184 = .ok (.lshl, 1) := by decide +kernel
theorem dX9_nextToken_185 : decode cX9_nextToken 185 = .ok (.aload_n 0, 1) := by decide +kernel
theorem dX9_nextToken_186 : decode cX9_nextToken 186 = .ok (.aload_n 0, 1) := by decide +kernel
theorem dX9_nextToken_187 : decode cX9_nextToken 187 = .ok (.getfield 227, 3) := by decide +kernel
theorem dX9_nextToken_190 : decode cX9_nextToken 190 = .ok (.invokevirtual 230, 3) := by decide +kernel
theorem dX9_nextToken_193 : decode cX9_nextToken 193 = .ok (.i2l, 1) := by decide +kernel
theorem dX9_nextToken_194 : decode cX9_nextToken 194 = .ok (.lor, 1) := by decide +kernel
theorem dX9_nextToken_195 : decode cX9_nextToken 195 = .ok (.lstore_n 2, 1) := by decide +kernel
theorem dX9_nextToken_196 : decode cX9_nextToken 196 = .ok (.aload_n 0, 1) := by decide +kernel
theorem dX9_nextToken_197 : decode cX9_nextToken 197 = .ok (.dup, 1) := by decide +kernel
theorem dX9_nextToken_198 : decode cX9_nextToken 198 = .ok (.getfield 227, 3) := by decide +kernel
theorem dX9_nextToken_201 : decode cX9_nextToken 201 = .ok (.iconst 1, 1) := by decide +kernel
theorem dX9_nextToken_202 : decode cX9_nextToken 202 = .ok (.iadd, 1) := by decide +kernel
theorem dX9_nextToken_203 : decode cX9_nextToken 203 = .ok (.putfield 227, 3) := by decide +kernel
theorem dX9_nextToken_206 : decode cX9_nextToken 206 = .ok (.goto (-53), 3) := by decide +kernel
theorem dX9_nextToken_209 : decode cX9_nextToken 209 = .ok (.aload_n 0, 1) := by decide +kernel
theorem dX9_nextToken_210 : decode cX9_nextToken 210 = .ok (.aload_n 0, 1) := by decide +kernel
theorem dX9_nextToken_211 : decode cX9_nextToken 211 = .ok (.getfield 227, 3) := by decide +kernel
theorem dX9_nextToken_214 : decode cX9_nextToken 214 = .ok (.aload_n 0, 1) := by decide +kernel
theorem dX9_nextToken_215 : decode cX9_nextToken 215 = .ok (.getfield 233, 3) := by decide +kernel
theorem dX9_nextToken_218 : decode cX9_nextToken 218 = .ok (.isub, 1) := by decide +kernel
theorem dX9_nextToken_219 : decode cX9_nextToken 219 = .ok (.bipush 6, 2) := by decide +kernel
theorem dX9_nextToken_221 : decode cX9_nextToken 221 = .ok (.if_icmp .le 7, 3) := by decide +kernel
theorem dX9_nextToken_224 : decode cX9_nextToken 224 = .ok (.iconst 5, 1) := by decide +kernel
theorem dX9_nextToken_225 : decode cX9_nextToken 225 = .ok (.goto 7, 3) := by decide +kernel
theorem dX9_nextToken_228 : decode cX9_nextToken 228 = .ok (.lload_n 2, 1) := by decide +kernel
theorem dX9_nextToken_229 : decode cX9_nextToken 229 = .ok (.invokestatic 249, 3) := by decide +kernel
theorem dX9_nextToken_232 : decode cX9_nextToken 232 = .ok (.putfield 236, 3) := by decide +kernel
theorem dX9_nextToken_235 : decode cX9_nextToken 235 = .ok (.goto 48, 3) := by decide +kernel
theorem dX9_nextToken_238 : decode cX9_nextToken 238 = .ok (.aload_n 0, 1) := by decide +kernel
theorem dX9_nextToken_239 : decode cX9_nextToken 239 = .ok (.iload_n 1, 1) := by decide +kernel
theorem dX9_nextToken_240 : decode cX9_nextToken 240 = .ok (.bipush 59, 2) := by decide +kernel
theorem dX9_nextToken_242 : decode cX9_nextToken 242 = .ok (.if_icmp .ne 7, 3) := by decide +kernel
theorem dX9_nextToken_245 : decode cX9_nextToken 245 = .ok (.iconst 2, 1) := by decide +kernel
theorem dX9_nextToken_246 : decode cX9_nextToken 246 = .ok (.goto 24, 3) := by decide +kernel
theorem dX9_nextToken_249 : decode cX9_nextToken 249 = .ok (.iload_n 1, 1) := by decide +kernel
theorem dX9_nextToken_250 : decode cX9_nextToken 250 = .ok (.bipush 123, 2) := by decide +kernel
theorem dX9_nextToken_252 : decode cX9_nextToken 252 = .ok (.if_icmp .ne 7, 3) := by decide +kernel
theorem dX9_nextToken_255 : decode cX9_nextToken 255 = .ok (.iconst 3, 1) := by decide +kernel
theorem dX9_nextToken_256 : decode cX9_nextToken 256 = .ok (.goto 14, 3) := by decide +kernel
theorem dX9_nextToken_259 : decode cX9_nextToken 259 = .ok (.iload_n 1, 1) := by decide +kernel
theorem dX9_nextToken_260 : decode cX9_nextToken 260 = .ok (.bipush 125, 2) := by decide +kernel
theorem dX9_nextToken_262 : decode cX9_nextToken 262 = .ok (.if_icmp .ne 7, 3) := by decide +kernel
theorem dX9_nextToken_265 : decode cX9_nextToken 265 = .ok (.iconst 4, 1) := by decide +kernel
theorem dX9_nextToken_266 : decode cX9_nextToken 266 = .ok (.goto 4, 3) := by decide +kernel
theorem dX9_nextToken_269 : decode cX9_nextToken 269 = .ok (.iconst 5, 1) := by decide +kernel
theorem dX9_nextToken_270 : decode cX9_nextToken 270 = .ok (.putfield 236, 3) := by decide +kernel
theorem dX9_nextToken_273 : decode cX9_nextToken 273 = .ok (.aload_n 0, 1) := by decide +kernel
theorem dX9_nextToken_274 : decode cX9_nextToken 274 = .ok (.dup, 1) := by decide +kernel
theorem dX9_nextToken_275 : decode cX9_nextToken 275 = .ok (.getfield 227, 3) := by decide +kernel
theorem dX9_nextToken_278 : decode cX9_nextToken 278 = .ok (.iconst 1, 1) := by decide +kernel
theorem dX9_nextToken_279 : decode cX9_nextToken 279 = .ok (.iadd, 1) := by decide +kernel
theorem dX9_nextToken_280 : decode cX9_nextToken 280 = .ok (.putfield 227, 3) := by decide +kernel
theorem dX9_nextToken_283 : decode cX9_nextToken 283 = .ok (.return_, 1) := by decide +kernel
theorem dX9_order_0 : decode cX9_order 0 = .ok (.sipush 400, 3) := by decide +kernel
theorem dX9_order_3 : decode cX9_order 3 = .ok (.aload_n 0, 1) := by decide +kernel
theorem dX9_order_4 : decode cX9_order 4 = .ok (.getfield 253, 3) := by decide +kernel
theorem dX9_order_7 : decode cX9_order 7 = .ok (.iadd, 1) := by decide +kernel
theorem dX9_order_8 : decode cX9_order 8 = .ok (.istore 4, 2) := by decide +kernel
theorem dX9_order_10 : decode cX9_order 10 = .ok (.aload_n 0, 1) := by decide +kernel
theorem dX9_order_11 : decode cX9_order 11 = .ok (.getfield 91, 3) := by decide +kernel
theorem dX9_order_14 : decode cX9_order 14 = .ok (.iload 4, 2) := by decide +kernel
theorem dX9_order_16 : decode cX9_order 16 = .ok (.iload_n 1, 1) := by decide +kernel
theorem dX9_order_17 : decode cX9_order 17 = .ok (.iastore, 1) := by decide +kernel
theorem dX9_order_18 : decode cX9_order 18 = .ok (.aload_n 0, 1) := by decide +kernel
theorem dX9_order_19 : decode cX9_order 19 = .ok (.getfield 94, 3) := by decide +kernel
theorem dX9_order_22 : decode cX9_order 22 = .ok (.iload 4, 2) := by decide +kernel
theorem dX9_order_24 : decode cX9_order 24 = .ok (.iload_n 2, 1) := by decide +kernel
theorem dX9_order_25 : decode cX9_order 25 = .ok (.iastore, 1) := by decide +kernel
theorem dX9_order_26 : decode cX9_order 26 = .ok (.aload_n 0, 1) := by decide +kernel
theorem dX9_order_27 : decode cX9_order 27 = .ok (.getfield 97, 3) := by decide +kernel
theorem dX9_order_30 : decode cX9_order 30 = .ok (.iload 4, 2) := by decide +kernel
theorem dX9_order_32 : decode cX9_order 32 = .ok (.iload_n 3, 1) := by decide +kernel
theorem dX9_order_33 : decode cX9_order 33 = .ok (.iastore, 1) := by decide +kernel
theorem dX9_order_34 : decode cX9_order 34 = .ok (.aload_n 0, 1) := by decide +kernel
theorem dX9_order_35 : decode cX9_order 35 = .ok (.dup, 1) := by decide +kernel
theorem dX9_order_36 : decode cX9_order 36 = .ok (.getfield 253, 3) := by decide +kernel
theorem dX9_order_39 : decode cX9_order 39 = .ok (.iconst 1, 1) := by decide +kernel
theorem dX9_order_40 : decode cX9_order 40 = .ok (.iadd, 1) := by decide +kernel
theorem dX9_order_41 : decode cX9_order 41 = .ok (.putfield 253, 3) := by decide +kernel
theorem dX9_order_44 : decode cX9_order 44 = .ok (.aload_n 0, 1) := by decide +kernel
theorem dX9_order_45 : decode cX9_order 45 = .ok (.getfield 253, 3) := by decide +kernel
theorem dX9_order_48 : decode cX9_order 48 = .ok (.iconst 1, 1) := by decide +kernel
theorem dX9_order_49 : decode cX9_order 49 = .ok (.isub, 1) := by decide +kernel
theorem dX9_order_50 : decode cX9_order 50 = .ok (.ireturn, 1) := by decide +kernel
theorem dX9_lesser_0 : decode cX9_lesser 0 = .ok (.iload_n 0, 1) := by decide +kernel
theorem dX9_lesser_1 : decode cX9_lesser 1 = .ok (.iload_n 1, 1) := by decide +kernel
theorem dX9_lesser_2 : decode cX9_lesser 2 = .ok (.if_icmp .ge 7, 3) := by decide +kernel
theorem dX9_lesser_5 : decode cX9_lesser 5 = .ok (.iload_n 0, 1) := by decide +kernel
theorem dX9_lesser_6 : decode cX9_lesser 6 = .ok (.goto 4, 3) := by decide +kernel
theorem dX9_lesser_9 : decode cX9_lesser 9 = .ok (.iload_n 1, 1) := by decide +kernel
theorem dX9_lesser_10 : decode cX9_lesser 10 = .ok (.ireturn, 1) := by decide +kernel
theorem dX9_begin_0 : decode cX9_begin 0 = .ok (.aload_n 0, 1) := by decide +kernel
theorem dX9_begin_1 : decode cX9_begin 1 = .ok (.getfield 106, 3) := by decide +kernel
theorem dX9_begin_4 : decode cX9_begin 4 = .ok (.aload_n 0, 1) := by decide +kernel
theorem dX9_begin_5 : decode cX9_begin 5 = .ok (.getfield 256, 3) := by decide +kernel
theorem dX9_begin_8 : decode cX9_begin 8 = .ok (.iload_n 1, 1) := by decide +kernel
theorem dX9_begin_9 : decode cX9_begin 9 = .ok (.iastore, 1) := by decide +kernel
theorem dX9_begin_10 : decode cX9_begin 10 = .ok (.aload_n 0, 1) := by decide +kernel
theorem dX9_begin_11 : decode cX9_begin 11 = .ok (.getfield 109, 3) := by decide +kernel
theorem dX9_begin_14 : decode cX9_begin 14 = .ok (.aload_n 0, 1) := by decide +kernel
theorem dX9_begin_15 : decode cX9_begin 15 = .ok (.getfield 256, 3) := by decide +kernel
theorem dX9_begin_18 : decode cX9_begin 18 = .ok (.aload_n 0, 1) := by decide +kernel
theorem dX9_begin_19 : decode cX9_begin 19 = .ok (.getfield 91, 3) := by decide +kernel
theorem dX9_begin_22 : decode cX9_begin 22 = .ok (.sipush 400, 3) := by decide +kernel
theorem dX9_begin_25 : decode cX9_begin 25 = .ok (.iload_n 1, 1) := by decide +kernel
theorem dX9_begin_26 : decode cX9_begin 26 = .ok (.iadd, 1) := by decide +kernel
theorem dX9_begin_27 : decode cX9_begin 27 = .ok (.iaload, 1) := by decide +kernel
theorem dX9_begin_28 : decode cX9_begin 28 = .ok (.iconst 3, 1) := by decide +kernel
theorem dX9_begin_29 : decode cX9_begin 29 = .ok (.if_icmp .ne 7, 3) := by decide +kernel
theorem dX9_begin_32 : decode cX9_begin 32 = .ok (.iconst 0, 1) := by decide +kernel
theorem dX9_begin_33 : decode cX9_begin 33 = .ok (.goto 4, 3) := by decide +kernel
theorem dX9_begin_36 : decode cX9_begin 36 = .ok (.iconst 1, 1) := by decide +kernel
theorem dX9_begin_37 : decode cX9_begin 37 = .ok (.iastore, 1) := by decide +kernel
theorem dX9_begin_38 : decode cX9_begin 38 = .ok (.aload_n 0, 1) := by decide +kernel
theorem dX9_begin_39 : decode cX9_begin 39 = .ok (.getfield 112, 3) := by decide +kernel
theorem dX9_begin_42 : decode cX9_begin 42 = .ok (.aload_n 0, 1) := by decide +kernel
theorem dX9_begin_43 : decode cX9_begin 43 = .ok (.getfield 256, 3) := by decide +kernel
theorem dX9_begin_46 : decode cX9_begin 46 = .ok (.aload_n 0, 1) := by decide +kernel
theorem dX9_begin_47 : decode cX9_begin 47 = .ok (.getfield 259, 3) := by decide +kernel
theorem dX9_begin_50 : decode cX9_begin 50 = .ok (.iastore, 1) := by decide +kernel
theorem dX9_begin_51 : decode cX9_begin 51 = .ok (.aload_n 0, 1) := by decide +kernel
theorem dX9_begin_52 : decode cX9_begin 52 = .ok (.getfield 115, 3) := by decide +kernel
theorem dX9_begin_55 : decode cX9_begin 55 = .ok (.aload_n 0, 1) := by decide +kernel
theorem dX9_begin_56 : decode cX9_begin 56 = .ok (.getfield 256, 3) := by decide +kernel
theorem dX9_begin_59 : decode cX9_begin 59 = .ok (.aload_n 0, 1) := by decide +kernel
theorem dX9_begin_60 : decode cX9_begin 60 = .ok (.getfield 262, 3) := by decide +kernel
theorem dX9_begin_63 : decode cX9_begin 63 = .ok (.iastore, 1) := by decide +kernel
theorem dX9_begin_64 : decode cX9_begin 64 = .ok (.aload_n 0, 1) := by decide +kernel
theorem dX9_begin_65 : decode cX9_begin 65 = .ok (.iconst 0, 1) := by decide +kernel
theorem dX9_begin_66 : decode cX9_begin 66 = .ok (.putfield 259, 3) := by decide +kernel
theorem dX9_begin_69 : decode cX9_begin 69 = .ok (.aload_n 0, 1) := by decide +kernel
theorem dX9_begin_70 : decode cX9_begin 70 = .ok (.iconst 0, 1) := by decide +kernel
theorem dX9_begin_71 : decode cX9_begin 71 = .ok (.putfield 262, 3) := by decide +kernel
theorem dX9_begin_74 : decode cX9_begin 74 = .ok (.aload_n 0, 1) := by decide +kernel
theorem dX9_begin_75 : decode cX9_begin 75 = .ok (.dup, 1) := by decide +kernel
theorem dX9_begin_76 : decode cX9_begin 76 = .ok (.getfield 256, 3) := by decide +kernel
theorem dX9_begin_79 : decode cX9_begin 79 = .ok (.iconst 1, 1) := by decide +kernel
theorem dX9_begin_80 : decode cX9_begin 80 = .ok (.iadd, 1) := by decide +kernel
theorem dX9_begin_81 : decode cX9_begin 81 = .ok (.putfield 256, 3) := by decide +kernel
theorem dX9_begin_84 : decode cX9_begin 84 = .ok (.return_, 1) := by decide +kernel
theorem dX9_close_0 : decode cX9_close 0 = .ok (.aload_n 0, 1) := by decide +kernel
theorem dX9_close_1 : decode cX9_close 1 = .ok (.dup, 1) := by decide +kernel
theorem dX9_close_2 : decode cX9_close 2 = .ok (.getfield 256, 3) := by decide +kernel
theorem dX9_close_5 : decode cX9_close 5 = .ok (.iconst 1, 1) := by decide +kernel
theorem dX9_close_6 : decode cX9_close 6 = .ok (.isub, 1) := by decide +kernel
theorem dX9_close_7 : decode cX9_close 7 = .ok (.putfield 256, 3) := by decide +kernel
theorem dX9_close_10 : decode cX9_close 10 = .ok (.aload_n 0, 1) := by decide +kernel
theorem dX9_close_11 : decode cX9_close 11 = .ok (.ldc_w 265, 3) := by decide +kernel
theorem dX9_close_14 : decode cX9_close 14 = .ok (.aload_n 0, 1) := by decide +kernel
theorem dX9_close_15 : decode cX9_close 15 = .ok (.getfield 112, 3) := by decide +kernel
theorem dX9_close_18 : decode cX9_close 18 = .ok (.aload_n 0, 1) := by decide +kernel
theorem dX9_close_19 : decode cX9_close 19 = .ok (.getfield 256, 3) := by decide +kernel
theorem dX9_close_22 : decode cX9_close 22 = .ok (.iaload, 1) := by decide +kernel
theorem dX9_close_23 : decode cX9_close 23 = .ok (.iload_n 1, 1) := by decide +kernel
theorem dX9_close_24 : decode cX9_close 24 = .ok (.iadd, 1) := by decide +kernel
theorem dX9_close_25 : decode cX9_close 25 = .ok (.invokestatic 266, 3) := by decide +kernel
theorem dX9_close_28 : decode cX9_close 28 = .ok (.putfield 259, 3) := by decide +kernel
theorem dX9_close_31 : decode cX9_close 31 = .ok (.aload_n 0, 1) := by decide +kernel
theorem dX9_close_32 : decode cX9_close 32 = .ok (.ldc_w 265, 3) := by decide +kernel
theorem dX9_close_35 : decode cX9_close 35 = .ok (.aload_n 0, 1) := by decide +kernel
theorem dX9_close_36 : decode cX9_close 36 = .ok (.getfield 115, 3) := by decide +kernel
theorem dX9_close_39 : decode cX9_close 39 = .ok (.aload_n 0, 1) := by decide +kernel
theorem dX9_close_40 : decode cX9_close 40 = .ok (.getfield 256, 3) := by decide +kernel
theorem dX9_close_43 : decode cX9_close 43 = .ok (.iaload, 1) := by decide +kernel
theorem dX9_close_44 : decode cX9_close 44 = .ok (.iconst 1, 1) := by decide +kernel
theorem dX9_close_45 : decode cX9_close 45 = .ok (.iadd, 1) := by decide +kernel
theorem dX9_close_46 : decode cX9_close 46 = .ok (.iload_n 2, 1) := by decide +kernel
theorem dX9_close_47 : decode cX9_close 47 = .ok (.iadd, 1) := by decide +kernel
theorem dX9_close_48 : decode cX9_close 48 = .ok (.invokestatic 266, 3) := by decide +kernel
theorem dX9_close_51 : decode cX9_close 51 = .ok (.putfield 262, 3) := by decide +kernel
theorem dX9_close_54 : decode cX9_close 54 = .ok (.return_, 1) := by decide +kernel
theorem dX9_step_0 : decode cX9_step 0 = .ok (.aload_n 0, 1) := by decide +kernel
theorem dX9_step_1 : decode cX9_step 1 = .ok (.getfield 236, 3) := by decide +kernel
theorem dX9_step_4 : decode cX9_step 4 = .ok (.istore_n 1, 1) := by decide +kernel
theorem dX9_step_5 : decode cX9_step 5 = .ok (.iload_n 1, 1) := by decide +kernel
theorem dX9_step_6 : decode cX9_step 6 = .ok (.bipush 6, 2) := by decide +kernel
theorem dX9_step_8 : decode cX9_step 8 = .ok (.bipush 10, 2) := by decide +kernel
theorem dX9_step_10 : decode cX9_step 10 = .ok (.invokestatic 137, 3) := by decide +kernel
theorem dX9_step_13 : decode cX9_step 13 = .ok (.ifCond .ne 5, 3) := by decide +kernel
theorem dX9_step_16 : decode cX9_step 16 = .ok (.iconst 1, 1) := by decide +kernel
theorem dX9_step_17 : decode cX9_step 17 = .ok (.ireturn, 1) := by decide +kernel
theorem dX9_step_18 : decode cX9_step 18 = .ok (.aload_n 0, 1) := by decide +kernel
theorem dX9_step_19 : decode cX9_step 19 = .ok (.getfield 269, 3) := by decide +kernel
theorem dX9_step_22 : decode cX9_step 22 = .ok (.bipush 40, 2) := by decide +kernel
theorem dX9_step_24 : decode cX9_step 24 = .ok (.if_icmp .eq 17, 3) := by decide +kernel
theorem dX9_step_27 : decode cX9_step 27 = .ok (.iload_n 1, 1) := by decide +kernel
theorem dX9_step_28 : decode cX9_step 28 = .ok (.bipush 8, 2) := by decide +kernel
theorem dX9_step_30 : decode cX9_step 30 = .ok (.if_icmp .le 13, 3) := by decide +kernel
theorem dX9_step_33 : decode cX9_step 33 = .ok (.aload_n 0, 1) := by decide +kernel
theorem dX9_step_34 : decode cX9_step 34 = .ok (.getfield 256, 3) := by decide +kernel
theorem dX9_step_37 : decode cX9_step 37 = .ok (.iconst 5, 1) := by decide +kernel
theorem dX9_step_38 : decode cX9_step 38 = .ok (.if_icmp .ne 5, 3) := by decide +kernel
theorem dX9_step_41 : decode cX9_step 41 = .ok (.iconst 3, 1) := by decide +kernel
theorem dX9_step_42 : decode cX9_step 42 = .ok (.ireturn, 1) := by decide +kernel
theorem dX9_step_43 : decode cX9_step 43 = .ok (.aload_n 0, 1) := by decide +kernel
theorem dX9_step_44 : decode cX9_step 44 = .ok (.dup, 1) := by decide +kernel
theorem dX9_step_45 : decode cX9_step 45 = .ok (.getfield 269, 3) := by decide +kernel
theorem dX9_step_48 : decode cX9_step 48 = .ok (.iconst 1, 1) := by decide +kernel
theorem dX9_step_49 : decode cX9_step 49 = .ok (.iadd, 1) := by decide +kernel
theorem dX9_step_50 : decode cX9_step 50 = .ok (.putfield 269, 3) := by decide +kernel
theorem dX9_step_53 : decode cX9_step 53 = .ok (.aload_n 0, 1) := by decide +kernel
theorem dX9_step_54 : decode cX9_step 54 = .ok (.invokevirtual 272, 3) := by decide +kernel
theorem dX9_step_57 : decode cX9_step 57 = .ok (.iload_n 1, 1) := by decide +kernel
theorem dX9_step_58 : decode cX9_step 58 = .ok (.bipush 8, 2) := by decide +kernel
theorem dX9_step_60 : decode cX9_step 60 = .ok (.if_icmp .ne 32, 3) := by decide +kernel
theorem dX9_step_63 : decode cX9_step 63 = .ok (.aload_n 0, 1) := by decide +kernel
theorem dX9_step_64 : decode cX9_step 64 = .ok (.iconst 2, 1) := by decide +kernel
theorem dX9_step_65 : decode cX9_step 65 = .ok (.iconst 0, 1) := by decide +kernel
theorem dX9_step_66 : decode cX9_step 66 = .ok (.iconst 0, 1) := by decide +kernel
theorem dX9_step_67 : decode cX9_step 67 = .ok (.invokevirtual 275, 3) := by decide +kernel
theorem dX9_step_70 : decode cX9_step 70 = .ok (.pop, 1) := by decide +kernel
theorem dX9_step_71 : decode cX9_step 71 = .ok (.aload_n 0, 1) := by decide +kernel
theorem dX9_step_72 : decode cX9_step 72 = .ok (.ldc_w 265, 3) := by decide +kernel
theorem dX9_step_75 : decode cX9_step 75 = .ok (.aload_n 0, 1) := by decide +kernel
theorem dX9_step_76 : decode cX9_step 76 = .ok (.getfield 262, 3) := by decide +kernel
theorem dX9_step_79 : decode cX9_step 79 = .ok (.iconst 1, 1) := by decide +kernel
theorem dX9_step_80 : decode cX9_step 80 = .ok (.iadd, 1) := by decide +kernel
theorem dX9_step_81 : decode cX9_step 81 = .ok (.invokestatic 266, 3) := by decide +kernel
theorem dX9_step_84 : decode cX9_step 84 = .ok (.putfield 262, 3) := by decide +kernel
theorem dX9_step_87 : decode cX9_step 87 = .ok (.aload_n 0, 1) := by decide +kernel
theorem dX9_step_88 : decode cX9_step 88 = .ok (.invokevirtual 278, 3) := by decide +kernel
theorem dX9_step_91 : decode cX9_step 91 = .ok (.ireturn, 1) := by decide +kernel
theorem dX9_step_92 : decode cX9_step 92 = .ok (.iload_n 1, 1) := by decide +kernel
theorem dX9_step_93 : decode cX9_step 93 = .ok (.bipush 10, 2) := by decide +kernel
theorem dX9_step_95 : decode cX9_step 95 = .ok (.if_icmp .ne 30, 3) := by decide +kernel
theorem dX9_step_98 : decode cX9_step 98 = .ok (.aload_n 0, 1) := by decide +kernel
theorem dX9_step_99 : decode cX9_step 99 = .ok (.getfield 236, 3) := by decide +kernel
theorem dX9_step_102 : decode cX9_step 102 = .ok (.iconst 3, 1) := by decide +kernel
theorem dX9_step_103 : decode cX9_step 103 = .ok (.if_icmp .eq 5, 3) := by decide +kernel
theorem dX9_step_106 : decode cX9_step 106 = .ok (.iconst 1, 1) := by decide +kernel
theorem dX9_step_107 : decode cX9_step 107 = .ok (.ireturn, 1) := by decide +kernel
theorem dX9_step_108 : decode cX9_step 108 = .ok (.aload_n 0, 1) := by decide +kernel
theorem dX9_step_109 : decode cX9_step 109 = .ok (.aload_n 0, 1) := by decide +kernel
theorem dX9_step_110 : decode cX9_step 110 = .ok (.iconst 5, 1) := by decide +kernel
theorem dX9_step_111 : decode cX9_step 111 = .ok (.iconst 0, 1) := by decide +kernel
theorem dX9_step_112 : decode cX9_step 112 = .ok (.iconst 0, 1) := by decide +kernel
theorem dX9_step_113 : decode cX9_step 113 = .ok (.invokevirtual 275, 3) := by decide +kernel
theorem dX9_step_116 : decode cX9_step 116 = .ok (.invokevirtual 281, 3) := by decide +kernel
theorem dX9_step_119 : decode cX9_step 119 = .ok (.aload_n 0, 1) := by decide +kernel
theorem dX9_step_120 : decode cX9_step 120 = .ok (.invokevirtual 272, 3) := by decide +kernel
theorem dX9_step_123 : decode cX9_step 123 = .ok (.iconst 0, 1) := by decide +kernel
theorem dX9_step_124 : decode cX9_step 124 = .ok (.ireturn, 1) := by decide +kernel
theorem dX9_step_125 : decode cX9_step 125 = .ok (.aload_n 0, 1) := by decide +kernel
theorem dX9_step_126 : decode cX9_step 126 = .ok (.getfield 236, 3) := by decide +kernel
theorem dX9_step_129 : decode cX9_step 129 = .ok (.iconst 1, 1) := by decide +kernel
theorem dX9_step_130 : decode cX9_step 130 = .ok (.if_icmp .eq 5, 3) := by decide +kernel
theorem dX9_step_133 : decode cX9_step 133 = .ok (.iconst 1, 1) := by decide +kernel
theorem dX9_step_134 : decode cX9_step 134 = .ok (.ireturn, 1) := by decide +kernel
theorem dX9_step_135 : decode cX9_step 135 = .ok (.iload_n 1, 1) := by decide +kernel
theorem dX9_step_136 : decode cX9_step 136 = .ok (.bipush 6, 2) := by decide +kernel
theorem dX9_step_138 : decode cX9_step 138 = .ok (.if_icmp .ne 15, 3) := by decide +kernel
theorem dX9_step_141 : decode cX9_step 141 = .ok (.aload_n 0, 1) := by decide +kernel
theorem dX9_step_142 : decode cX9_step 142 = .ok (.getfield 242, 3) := by decide +kernel
theorem dX9_step_145 : decode cX9_step 145 = .ok (.bipush 30, 2) := by decide +kernel
theorem dX9_step_147 : decode cX9_step 147 = .ok (.if_icmp .le 21, 3) := by decide +kernel
theorem dX9_step_150 : decode cX9_step 150 = .ok (.goto 16, 3) := by decide +kernel
theorem dX9_step_153 : decode cX9_step 153 = .ok (.aload_n 0, 1) := by decide +kernel
theorem dX9_step_154 : decode cX9_step 154 = .ok (.getfield 242, 3) := by decide +kernel
theorem dX9_step_157 : decode cX9_step 157 = .ok (.iconst 1, 1) := by decide +kernel
theorem dX9_step_158 : decode cX9_step 158 = .ok (.bipush 50, 2) := by decide +kernel
theorem dX9_step_160 : decode cX9_step 160 = .ok (.invokestatic 137, 3) := by decide +kernel
theorem dX9_step_163 : decode cX9_step 163 = .ok (.ifCond .ne 5, 3) := by decide +kernel
theorem dX9_step_166 : decode cX9_step 166 = .ok (.iconst 2, 1) := by decide +kernel
theorem dX9_step_167 : decode cX9_step 167 = .ok (.ireturn, 1) := by decide +kernel
theorem dX9_step_168 : decode cX9_step 168 = .ok (.aload_n 0, 1) := by decide +kernel
theorem dX9_step_169 : decode cX9_step 169 = .ok (.getfield 242, 3) := by decide +kernel
theorem dX9_step_172 : decode cX9_step 172 = .ok (.istore_n 2, 1) := by decide +kernel
theorem dX9_step_173 : decode cX9_step 173 = .ok (.aload_n 0, 1) := by decide +kernel
theorem dX9_step_174 : decode cX9_step 174 = .ok (.invokevirtual 272, 3) := by decide +kernel
theorem dX9_step_177 : decode cX9_step 177 = .ok (.iload_n 1, 1) := by decide +kernel
theorem dX9_step_178 : decode cX9_step 178 = .ok (.bipush 9, 2) := by decide +kernel
theorem dX9_step_180 : decode cX9_step 180 = .ok (.if_icmp .ne 30, 3) := by decide +kernel
theorem dX9_step_183 : decode cX9_step 183 = .ok (.aload_n 0, 1) := by decide +kernel
theorem dX9_step_184 : decode cX9_step 184 = .ok (.getfield 236, 3) := by decide +kernel
theorem dX9_step_187 : decode cX9_step 187 = .ok (.iconst 3, 1) := by decide +kernel
theorem dX9_step_188 : decode cX9_step 188 = .ok (.if_icmp .eq 5, 3) := by decide +kernel
theorem dX9_step_191 : decode cX9_step 191 = .ok (.iconst 1, 1) := by decide +kernel
theorem dX9_step_192 : decode cX9_step 192 = .ok (.ireturn, 1) := by decide +kernel
theorem dX9_step_193 : decode cX9_step 193 = .ok (.aload_n 0, 1) := by decide +kernel
theorem dX9_step_194 : decode cX9_step 194 = .ok (.aload_n 0, 1) := by decide +kernel
theorem dX9_step_195 : decode cX9_step 195 = .ok (.iconst 3, 1) := by decide +kernel
theorem dX9_step_196 : decode cX9_step 196 = .ok (.iload_n 2, 1) := by decide +kernel
theorem dX9_step_197 : decode cX9_step 197 = .ok (.iconst 0, 1) := by decide +kernel
theorem dX9_step_198 : decode cX9_step 198 = .ok (.invokevirtual 275, 3) := by decide +kernel
theorem dX9_step_201 : decode cX9_step 201 = .ok (.invokevirtual 281, 3) := by decide +kernel
theorem dX9_step_204 : decode cX9_step 204 = .ok (.aload_n 0, 1) := by decide +kernel
theorem dX9_step_205 : decode cX9_step 205 = .ok (.invokevirtual 272, 3) := by decide +kernel
theorem dX9_step_208 : decode cX9_step 208 = .ok (.iconst 0, 1) := by decide +kernel
theorem dX9_step_209 : decode cX9_step 209 = .ok (.ireturn, 1) := by decide +kernel
theorem dX9_step_210 : decode cX9_step 210 = .ok (.aload_n 0, 1) := by decide +kernel
theorem dX9_step_211 : decode cX9_step 211 = .ok (.iload_n 1, 1) := by decide +kernel
theorem dX9_step_212 : decode cX9_step 212 = .ok (.bipush 6, 2) := by decide +kernel
theorem dX9_step_214 : decode cX9_step 214 = .ok (.if_icmp .ne 7, 3) := by decide +kernel
theorem dX9_step_217 : decode cX9_step 217 = .ok (.iconst 0, 1) := by decide +kernel
theorem dX9_step_218 : decode cX9_step 218 = .ok (.goto 4, 3) := by decide +kernel
theorem dX9_step_221 : decode cX9_step 221 = .ok (.iconst 1, 1) := by decide +kernel
theorem dX9_step_222 : decode cX9_step 222 = .ok (.iload_n 2, 1) := by decide +kernel
theorem dX9_step_223 : decode cX9_step 223 = .ok (.iconst 0, 1) := by decide +kernel
theorem dX9_step_224 : decode cX9_step 224 = .ok (.invokevirtual 275, 3) := by decide +kernel
theorem dX9_step_227 : decode cX9_step 227 = .ok (.pop, 1) := by decide +kernel
theorem dX9_step_228 : decode cX9_step 228 = .ok (.aload_n 0, 1) := by decide +kernel
theorem dX9_step_229 : decode cX9_step 229 = .ok (.ldc_w 265, 3) := by decide +kernel
theorem dX9_step_232 : decode cX9_step 232 = .ok (.aload_n 0, 1) := by decide +kernel
theorem dX9_step_233 : decode cX9_step 233 = .ok (.getfield 259, 3) := by decide +kernel
theorem dX9_step_236 : decode cX9_step 236 = .ok (.iload_n 1, 1) := by decide +kernel
theorem dX9_step_237 : decode cX9_step 237 = .ok (.bipush 7, 2) := by decide +kernel
theorem dX9_step_239 : decode cX9_step 239 = .ok (.if_icmp .ne 7, 3) := by decide +kernel
theorem dX9_step_242 : decode cX9_step 242 = .ok (.iload_n 2, 1) := by decide +kernel
theorem dX9_step_243 : decode cX9_step 243 = .ok (.goto 4, 3) := by decide +kernel
theorem dX9_step_246 : decode cX9_step 246 = .ok (.iconst 0, 1) := by decide +kernel
theorem dX9_step_247 : decode cX9_step 247 = .ok (.iadd, 1) := by decide +kernel
theorem dX9_step_248 : decode cX9_step 248 = .ok (.invokestatic 266, 3) := by decide +kernel
theorem dX9_step_251 : decode cX9_step 251 = .ok (.putfield 259, 3) := by decide +kernel
theorem dX9_step_254 : decode cX9_step 254 = .ok (.aload_n 0, 1) := by decide +kernel
theorem dX9_step_255 : decode cX9_step 255 = .ok (.ldc_w 265, 3) := by decide +kernel
theorem dX9_step_258 : decode cX9_step 258 = .ok (.aload_n 0, 1) := by decide +kernel
theorem dX9_step_259 : decode cX9_step 259 = .ok (.getfield 262, 3) := by decide +kernel
theorem dX9_step_262 : decode cX9_step 262 = .ok (.iconst 1, 1) := by decide +kernel
theorem dX9_step_263 : decode cX9_step 263 = .ok (.iadd, 1) := by decide +kernel
theorem dX9_step_264 : decode cX9_step 264 = .ok (.invokestatic 266, 3) := by decide +kernel
theorem dX9_step_267 : decode cX9_step 267 = .ok (.putfield 262, 3) := by decide +kernel
theorem dX9_step_270 : decode cX9_step 270 = .ok (.aload_n 0, 1) := by decide +kernel
theorem dX9_step_271 : decode cX9_step 271 = .ok (.invokevirtual 278, 3) := by decide +kernel
theorem dX9_step_274 : decode cX9_step 274 = .ok (.ireturn, 1) := by decide +kernel
theorem dX9_semicolon_0 : decode cX9_semicolon 0 = .ok (.aload_n 0, 1) := by decide +kernel
theorem dX9_semicolon_1 : decode cX9_semicolon 1 = .ok (.getfield 236, 3) := by decide +kernel
theorem dX9_semicolon_4 : decode cX9_semicolon 4 = .ok (.iconst 2, 1) := by decide +kernel
theorem dX9_semicolon_5 : decode cX9_semicolon 5 = .ok (.if_icmp .eq 5, 3) := by decide +kernel
theorem dX9_semicolon_8 : decode cX9_semicolon 8 = .ok (.iconst 1, 1) := by decide +kernel
theorem dX9_semicolon_9 : decode cX9_semicolon 9 = .ok (.ireturn, 1) := by decide +kernel
theorem dX9_semicolon_10 : decode cX9_semicolon 10 = .ok (.aload_n 0, 1) := by decide +kernel
theorem dX9_semicolon_11 : decode cX9_semicolon 11 = .ok (.invokevirtual 272, 3) := by decide +kernel
theorem dX9_semicolon_14 : decode cX9_semicolon 14 = .ok (.iconst 0, 1) := by decide +kernel
theorem dX9_semicolon_15 : decode cX9_semicolon 15 = .ok (.ireturn, 1) := by decide +kernel
theorem dX9_brace_0 : decode cX9_brace 0 = .ok (.aload_n 0, 1) := by decide +kernel
theorem dX9_brace_1 : decode cX9_brace 1 = .ok (.getfield 256, 3) := by decide +kernel
theorem dX9_brace_4 : decode cX9_brace 4 = .ok (.ifCond .ne 5, 3) := by decide +kernel
theorem dX9_brace_7 : decode cX9_brace 7 = .ok (.iconst 1, 1) := by decide +kernel
theorem dX9_brace_8 : decode cX9_brace 8 = .ok (.ireturn, 1) := by decide +kernel
theorem dX9_brace_9 : decode cX9_brace 9 = .ok (.aload_n 0, 1) := by decide +kernel
theorem dX9_brace_10 : decode cX9_brace 10 = .ok (.getfield 256, 3) := by decide +kernel
theorem dX9_brace_13 : decode cX9_brace 13 = .ok (.iconst 1, 1) := by decide +kernel
theorem dX9_brace_14 : decode cX9_brace 14 = .ok (.isub, 1) := by decide +kernel
theorem dX9_brace_15 : decode cX9_brace 15 = .ok (.istore_n 1, 1) := by decide +kernel
theorem dX9_brace_16 : decode cX9_brace 16 = .ok (.aload_n 0, 1) := by decide +kernel
theorem dX9_brace_17 : decode cX9_brace 17 = .ok (.getfield 106, 3) := by decide +kernel
theorem dX9_brace_20 : decode cX9_brace 20 = .ok (.iload_n 1, 1) := by decide +kernel
theorem dX9_brace_21 : decode cX9_brace 21 = .ok (.iaload, 1) := by decide +kernel
theorem dX9_brace_22 : decode cX9_brace 22 = .ok (.istore_n 2, 1) := by decide +kernel
theorem dX9_brace_23 : decode cX9_brace 23 = .ok (.aload_n 0, 1) := by decide +kernel
theorem dX9_brace_24 : decode cX9_brace 24 = .ok (.invokevirtual 272, 3) := by decide +kernel
theorem dX9_brace_27 : decode cX9_brace 27 = .ok (.aload_n 0, 1) := by decide +kernel
theorem dX9_brace_28 : decode cX9_brace 28 = .ok (.getfield 109, 3) := by decide +kernel
theorem dX9_brace_31 : decode cX9_brace 31 = .ok (.iload_n 1, 1) := by decide +kernel
theorem dX9_brace_32 : decode cX9_brace 32 = .ok (.iaload, 1) := by decide +kernel
theorem dX9_brace_33 : decode cX9_brace 33 = .ok (.ifCond .ne 96, 3) := by decide +kernel
theorem dX9_brace_36 : decode cX9_brace 36 = .ok (.aload_n 0, 1) := by decide +kernel
theorem dX9_brace_37 : decode cX9_brace 37 = .ok (.iconst 4, 1) := by decide +kernel
theorem dX9_brace_38 : decode cX9_brace 38 = .ok (.iconst 0, 1) := by decide +kernel
theorem dX9_brace_39 : decode cX9_brace 39 = .ok (.iload_n 2, 1) := by decide +kernel
theorem dX9_brace_40 : decode cX9_brace 40 = .ok (.invokevirtual 275, 3) := by decide +kernel
theorem dX9_brace_43 : decode cX9_brace 43 = .ok (.pop, 1) := by decide +kernel
theorem dX9_brace_44 : decode cX9_brace 44 = .ok (.aload_n 0, 1) := by decide +kernel
theorem dX9_brace_45 : decode cX9_brace 45 = .ok (.getfield 97, 3) := by decide +kernel
theorem dX9_brace_48 : decode cX9_brace 48 = .ok (.sipush 400, 3) := by decide +kernel
theorem dX9_brace_51 : decode cX9_brace 51 = .ok (.iload_n 2, 1) := by decide +kernel
theorem dX9_brace_52 : decode cX9_brace 52 = .ok (.iadd, 1) := by decide +kernel
theorem dX9_brace_53 : decode cX9_brace 53 = .ok (.aload_n 0, 1) := by decide +kernel
theorem dX9_brace_54 : decode cX9_brace 54 = .ok (.getfield 253, 3) := by decide +kernel
theorem dX9_brace_57 : decode cX9_brace 57 = .ok (.iastore, 1) := by decide +kernel
theorem dX9_brace_58 : decode cX9_brace 58 = .ok (.aload_n 0, 1) := by decide +kernel
theorem dX9_brace_59 : decode cX9_brace 59 = .ok (.getfield 94, 3) := by decide +kernel
theorem dX9_brace_62 : decode cX9_brace 62 = .ok (.sipush 400, 3) := by decide +kernel
theorem dX9_brace_65 : decode cX9_brace 65 = .ok (.iload_n 2, 1) := by decide +kernel
theorem dX9_brace_66 : decode cX9_brace 66 = .ok (.iadd, 1) := by decide +kernel
theorem dX9_brace_67 : decode cX9_brace 67 = .ok (.iaload, 1) := by decide +kernel
theorem dX9_brace_68 : decode cX9_brace 68 = .ok (.istore_n 3, 1) := by decide +kernel
theorem dX9_brace_69 : decode cX9_brace 69 = .ok (.aload_n 0, 1) := by decide +kernel
theorem dX9_brace_70 : decode cX9_brace 70 = .ok (.aload_n 0, 1) := by decide +kernel
theorem dX9_brace_71 : decode cX9_brace 71 = .ok (.getfield 259, 3) := by decide +kernel
theorem dX9_brace_74 : decode cX9_brace 74 = .ok (.i2l, 1) := by decide +kernel
theorem dX9_brace_75 : decode cX9_brace 75 = .ok (.iload_n 3, 1) := by decide +kernel
theorem dX9_brace_76 : decode cX9_brace 76 = .ok (.i2l, 1) := by decide +kernel
theorem dX9_brace_77 : decode cX9_brace 77 = .ok (.lmul, 1) := by decide +kernel
theorem dX9_brace_78 : decode cX9_brace 78 = .ok (.ldc2_w 284, 3) := by decide +kernel
theorem dX9_brace_81 : decode cX9_brace 81 = .ok (.lcmp, 1) := by decide +kernel
theorem dX9_brace_82 : decode cX9_brace 82 = .ok (.ifCond .le 9, 3) := by decide +kernel
theorem dX9_brace_85 : decode cX9_brace 85 = .ok (.ldc_w 265, 3) := by decide +kernel
theorem dX9_brace_88 : decode cX9_brace 88 = .ok (.goto 9, 3) := by decide +kernel
theorem dX9_brace_91 : decode cX9_brace 91 = .ok (.aload_n 0, 1) := by decide +kernel
theorem dX9_brace_92 : decode cX9_brace 92 = .ok (.getfield 259, 3) := by decide +kernel
theorem dX9_brace_95 : decode cX9_brace 95 = .ok (.iload_n 3, 1) := by decide +kernel
theorem dX9_brace_96 : decode cX9_brace 96 = .ok (.imul, 1) := by decide +kernel
theorem dX9_brace_97 : decode cX9_brace 97 = .ok (.aload_n 0, 1) := by decide +kernel
theorem dX9_brace_98 : decode cX9_brace 98 = .ok (.getfield 262, 3) := by decide +kernel
theorem dX9_brace_101 : decode cX9_brace 101 = .ok (.i2l, 1) := by decide +kernel
theorem dX9_brace_102 : decode cX9_brace 102 = .ok (.iload_n 3, 1) := by decide +kernel
theorem dX9_brace_103 : decode cX9_brace 103 = .ok (.i2l, 1) := by decide +kernel
theorem dX9_brace_104 : decode cX9_brace 104 = .ok (.lmul, 1) := by decide +kernel
theorem dX9_brace_105 : decode cX9_brace 105 = .ok (.ldc2_w 284, 3) := by decide +kernel
theorem dX9_brace_108 : decode cX9_brace 108 = .ok (.lcmp, 1) := by decide +kernel
theorem dX9_brace_109 : decode cX9_brace 109 = .ok (.ifCond .le 9, 3) := by decide +kernel
theorem dX9_brace_112 : decode cX9_brace 112 = .ok (.ldc_w 265, 3) := by decide +kernel
theorem dX9_brace_115 : decode cX9_brace 115 = .ok (.goto 9, 3) := by decide +kernel
theorem dX9_brace_118 : decode cX9_brace 118 = .ok (.aload_n 0, 1) := by decide +kernel
theorem dX9_brace_119 : decode cX9_brace 119 = .ok (.getfield 262, 3) := by decide +kernel
theorem dX9_brace_122 : decode cX9_brace 122 = .ok (.iload_n 3, 1) := by decide +kernel
theorem dX9_brace_123 : decode cX9_brace 123 = .ok (.imul, 1) := by decide +kernel
theorem dX9_brace_124 : decode cX9_brace 124 = .ok (.invokevirtual 286, 3) := by decide +kernel
theorem dX9_brace_127 : decode cX9_brace 127 = .ok (.iconst 0, 1) := by decide +kernel
theorem dX9_brace_128 : decode cX9_brace 128 = .ok (.ireturn, 1) := by decide +kernel
theorem dX9_brace_129 : decode cX9_brace 129 = .ok (.aload_n 0, 1) := by decide +kernel
theorem dX9_brace_130 : decode cX9_brace 130 = .ok (.getfield 109, 3) := by decide +kernel
theorem dX9_brace_133 : decode cX9_brace 133 = .ok (.iload_n 1, 1) := by decide +kernel
theorem dX9_brace_134 : decode cX9_brace 134 = .ok (.iaload, 1) := by decide +kernel
theorem dX9_brace_135 : decode cX9_brace 135 = .ok (.iconst 1, 1) := by decide +kernel
theorem dX9_brace_136 : decode cX9_brace 136 = .ok (.if_icmp .ne 101, 3) := by decide +kernel
theorem dX9_brace_139 : decode cX9_brace 139 = .ok (.aload_n 0, 1) := by decide +kernel
theorem dX9_brace_140 : decode cX9_brace 140 = .ok (.getfield 236, 3) := by decide +kernel
theorem dX9_brace_143 : decode cX9_brace 143 = .ok (.bipush 11, 2) := by decide +kernel
theorem dX9_brace_145 : decode cX9_brace 145 = .ok (.if_icmp .eq 5, 3) := by decide +kernel
theorem dX9_brace_148 : decode cX9_brace 148 = .ok (.iconst 1, 1) := by decide +kernel
theorem dX9_brace_149 : decode cX9_brace 149 = .ok (.ireturn, 1) := by decide +kernel
theorem dX9_brace_150 : decode cX9_brace 150 = .ok (.aload_n 0, 1) := by decide +kernel
theorem dX9_brace_151 : decode cX9_brace 151 = .ok (.invokevirtual 272, 3) := by decide +kernel
theorem dX9_brace_154 : decode cX9_brace 154 = .ok (.aload_n 0, 1) := by decide +kernel
theorem dX9_brace_155 : decode cX9_brace 155 = .ok (.getfield 236, 3) := by decide +kernel
theorem dX9_brace_158 : decode cX9_brace 158 = .ok (.iconst 3, 1) := by decide +kernel
theorem dX9_brace_159 : decode cX9_brace 159 = .ok (.if_icmp .eq 5, 3) := by decide +kernel
theorem dX9_brace_162 : decode cX9_brace 162 = .ok (.iconst 1, 1) := by decide +kernel
theorem dX9_brace_163 : decode cX9_brace 163 = .ok (.ireturn, 1) := by decide +kernel
theorem dX9_brace_164 : decode cX9_brace 164 = .ok (.aload_n 0, 1) := by decide +kernel
theorem dX9_brace_165 : decode cX9_brace 165 = .ok (.invokevirtual 272, 3) := by decide +kernel
theorem dX9_brace_168 : decode cX9_brace 168 = .ok (.aload_n 0, 1) := by decide +kernel
theorem dX9_brace_169 : decode cX9_brace 169 = .ok (.bipush 6, 2) := by decide +kernel
theorem dX9_brace_171 : decode cX9_brace 171 = .ok (.iconst 0, 1) := by decide +kernel
theorem dX9_brace_172 : decode cX9_brace 172 = .ok (.iconst 0, 1) := by decide +kernel
theorem dX9_brace_173 : decode cX9_brace 173 = .ok (.invokevirtual 275, 3) := by decide +kernel
theorem dX9_brace_176 : decode cX9_brace 176 = .ok (.istore_n 3, 1) := by decide +kernel
theorem dX9_brace_177 : decode cX9_brace 177 = .ok (.aload_n 0, 1) := by decide +kernel
theorem dX9_brace_178 : decode cX9_brace 178 = .ok (.getfield 97, 3) := by decide +kernel
theorem dX9_brace_181 : decode cX9_brace 181 = .ok (.sipush 400, 3) := by decide +kernel
theorem dX9_brace_184 : decode cX9_brace 184 = .ok (.iload_n 2, 1) := by decide +kernel
theorem dX9_brace_185 : decode cX9_brace 185 = .ok (.iadd, 1) := by decide +kernel
theorem dX9_brace_186 : decode cX9_brace 186 = .ok (.aload_n 0, 1) := by decide +kernel
theorem dX9_brace_187 : decode cX9_brace 187 = .ok (.getfield 253, 3) := by decide +kernel
theorem dX9_brace_190 : decode cX9_brace 190 = .ok (.iastore, 1) := by decide +kernel
theorem dX9_brace_191 : decode cX9_brace 191 = .ok (.aload_n 0, 1) := by decide +kernel
theorem dX9_brace_192 : decode cX9_brace 192 = .ok (.getfield 106, 3) := by decide +kernel
theorem dX9_brace_195 : decode cX9_brace 195 = .ok (.iload_n 1, 1) := by decide +kernel
theorem dX9_brace_196 : decode cX9_brace 196 = .ok (.iload_n 3, 1) := by decide +kernel
theorem dX9_brace_197 : decode cX9_brace 197 = .ok (.iastore, 1) := by decide +kernel
theorem dX9_brace_198 : decode cX9_brace 198 = .ok (.aload_n 0, 1) := by decide +kernel
theorem dX9_brace_199 : decode cX9_brace 199 = .ok (.getfield 109, 3) := by decide +kernel
theorem dX9_brace_202 : decode cX9_brace 202 = .ok (.iload_n 1, 1) := by decide +kernel
theorem dX9_brace_203 : decode cX9_brace 203 = .ok (.iconst 2, 1) := by decide +kernel
theorem dX9_brace_204 : decode cX9_brace 204 = .ok (.iastore, 1) := by decide +kernel
theorem dX9_brace_205 : decode cX9_brace 205 = .ok (.aload_n 0, 1) := by decide +kernel
theorem dX9_brace_206 : decode cX9_brace 206 = .ok (.getfield 118, 3) := by decide +kernel
theorem dX9_brace_209 : decode cX9_brace 209 = .ok (.iload_n 1, 1) := by decide +kernel
theorem dX9_brace_210 : decode cX9_brace 210 = .ok (.aload_n 0, 1) := by decide +kernel
theorem dX9_brace_211 : decode cX9_brace 211 = .ok (.getfield 259, 3) := by decide +kernel
theorem dX9_brace_214 : decode cX9_brace 214 = .ok (.iastore, 1) := by decide +kernel
theorem dX9_brace_215 : decode cX9_brace 215 = .ok (.aload_n 0, 1) := by decide +kernel
theorem dX9_brace_216 : decode cX9_brace 216 = .ok (.getfield 121, 3) := by decide +kernel
theorem dX9_brace_219 : decode cX9_brace 219 = .ok (.iload_n 1, 1) := by decide +kernel
theorem dX9_brace_220 : decode cX9_brace 220 = .ok (.aload_n 0, 1) := by decide +kernel
theorem dX9_brace_221 : decode cX9_brace 221 = .ok (.getfield 262, 3) := by decide +kernel
theorem dX9_brace_224 : decode cX9_brace 224 = .ok (.iastore, 1) := by decide +kernel
theorem dX9_brace_225 : decode cX9_brace 225 = .ok (.aload_n 0, 1) := by decide +kernel
theorem dX9_brace_226 : decode cX9_brace 226 = .ok (.iconst 0, 1) := by decide +kernel
theorem dX9_brace_227 : decode cX9_brace 227 = .ok (.putfield 259, 3) := by decide +kernel
theorem dX9_brace_230 : decode cX9_brace 230 = .ok (.aload_n 0, 1) := by decide +kernel
theorem dX9_brace_231 : decode cX9_brace 231 = .ok (.iconst 0, 1) := by decide +kernel
theorem dX9_brace_232 : decode cX9_brace 232 = .ok (.putfield 262, 3) := by decide +kernel
theorem dX9_brace_235 : decode cX9_brace 235 = .ok (.iconst 0, 1) := by decide +kernel
theorem dX9_brace_236 : decode cX9_brace 236 = .ok (.ireturn, 1) := by decide +kernel
theorem dX9_brace_237 : decode cX9_brace 237 = .ok (.aload_n 0, 1) := by decide +kernel
theorem dX9_brace_238 : decode cX9_brace 238 = .ok (.getfield 97, 3) := by decide +kernel
theorem dX9_brace_241 : decode cX9_brace 241 = .ok (.sipush 400, 3) := by decide +kernel
theorem dX9_brace_244 : decode cX9_brace 244 = .ok (.iload_n 2, 1) := by decide +kernel
theorem dX9_brace_245 : decode cX9_brace 245 = .ok (.iadd, 1) := by decide +kernel
theorem dX9_brace_246 : decode cX9_brace 246 = .ok (.aload_n 0, 1) := by decide +kernel
theorem dX9_brace_247 : decode cX9_brace 247 = .ok (.getfield 253, 3) := by decide +kernel
theorem dX9_brace_250 : decode cX9_brace 250 = .ok (.iastore, 1) := by decide +kernel
theorem dX9_brace_251 : decode cX9_brace 251 = .ok (.aload_n 0, 1) := by decide +kernel
theorem dX9_brace_252 : decode cX9_brace 252 = .ok (.aload_n 0, 1) := by decide +kernel
theorem dX9_brace_253 : decode cX9_brace 253 = .ok (.getfield 259, 3) := by decide +kernel
theorem dX9_brace_256 : decode cX9_brace 256 = .ok (.aload_n 0, 1) := by decide +kernel
theorem dX9_brace_257 : decode cX9_brace 257 = .ok (.getfield 118, 3) := by decide +kernel
theorem dX9_brace_260 : decode cX9_brace 260 = .ok (.iload_n 1, 1) := by decide +kernel
theorem dX9_brace_261 : decode cX9_brace 261 = .ok (.iaload, 1) := by decide +kernel
theorem dX9_brace_262 : decode cX9_brace 262 = .ok (.if_icmp .le 10, 3) := by decide +kernel
theorem dX9_brace_265 : decode cX9_brace 265 = .ok (.aload_n 0, 1) := by decide +kernel
theorem dX9_brace_266 : decode cX9_brace 266 = .ok (.getfield 259, 3) := by decide +kernel
theorem dX9_brace_269 : decode cX9_brace 269 = .ok (.goto 9, 3) := by decide +kernel
theorem dX9_brace_272 : decode cX9_brace 272 = .ok (.aload_n 0, 1) := by decide +kernel
theorem dX9_brace_273 : decode cX9_brace 273 = .ok (.getfield 118, 3) := by decide +kernel
theorem dX9_brace_276 : decode cX9_brace 276 = .ok (.iload_n 1, 1) := by decide +kernel
theorem dX9_brace_277 : decode cX9_brace 277 = .ok (.iaload, 1) := by decide +kernel
theorem dX9_brace_278 : decode cX9_brace 278 = .ok (.aload_n 0, 1) := by decide +kernel
theorem dX9_brace_279 : decode cX9_brace 279 = .ok (.getfield 262, 3) := by decide +kernel
theorem dX9_brace_282 : decode cX9_brace 282 = .ok (.aload_n 0, 1) := by decide +kernel
theorem dX9_brace_283 : decode cX9_brace 283 = .ok (.getfield 121, 3) := by decide +kernel
theorem dX9_brace_286 : decode cX9_brace 286 = .ok (.iload_n 1, 1) := by decide +kernel
theorem dX9_brace_287 : decode cX9_brace 287 = .ok (.iaload, 1) := by decide +kernel
theorem dX9_brace_288 : decode cX9_brace 288 = .ok (.if_icmp .le 10, 3) := by decide +kernel
theorem dX9_brace_291 : decode cX9_brace 291 = .ok (.aload_n 0, 1) := by decide +kernel
theorem dX9_brace_292 : decode cX9_brace 292 = .ok (.getfield 262, 3) := by decide +kernel
theorem dX9_brace_295 : decode cX9_brace 295 = .ok (.goto 9, 3) := by decide +kernel
theorem dX9_brace_298 : decode cX9_brace 298 = .ok (.aload_n 0, 1) := by decide +kernel
theorem dX9_brace_299 : decode cX9_brace 299 = .ok (.getfield 121, 3) := by decide +kernel
theorem dX9_brace_302 : decode cX9_brace 302 = .ok (.iload_n 1, 1) := by decide +kernel
theorem dX9_brace_303 : decode cX9_brace 303 = .ok (.iaload, 1) := by decide +kernel
theorem dX9_brace_304 : decode cX9_brace 304 = .ok (.invokevirtual 286, 3) := by decide +kernel
theorem dX9_brace_307 : decode cX9_brace 307 = .ok (.iconst 0, 1) := by decide +kernel
theorem dX9_brace_308 : decode cX9_brace 308 = .ok (.ireturn, 1) := by decide +kernel
theorem dX9_readRecipe_0 : decode cX9_readRecipe 0 = .ok (.aload_n 0, 1) := by decide +kernel
theorem dX9_readRecipe_1 : decode cX9_readRecipe 1 = .ok (.sipush 200, 3) := by decide +kernel
theorem dX9_readRecipe_4 : decode cX9_readRecipe 4 = .ok (.putfield 233, 3) := by decide +kernel
theorem dX9_readRecipe_7 : decode cX9_readRecipe 7 = .ok (.aload_n 0, 1) := by decide +kernel
theorem dX9_readRecipe_8 : decode cX9_readRecipe 8 = .ok (.getfield 130, 3) := by decide +kernel
theorem dX9_readRecipe_11 : decode cX9_readRecipe 11 = .ok (.sipush 200, 3) := by decide +kernel
theorem dX9_readRecipe_14 : decode cX9_readRecipe 14 = .ok (.if_icmp .le 5, 3) := by decide +kernel
theorem dX9_readRecipe_17 : decode cX9_readRecipe 17 = .ok (.iconst 1, 1) := by decide +kernel
theorem dX9_readRecipe_18 : decode cX9_readRecipe 18 = .ok (.ireturn, 1) := by decide +kernel
theorem dX9_readRecipe_19 : decode cX9_readRecipe 19 = .ok (.aload_n 0, 1) := by decide +kernel
theorem dX9_readRecipe_20 : decode cX9_readRecipe 20 = .ok (.iconst 0, 1) := by decide +kernel
theorem dX9_readRecipe_21 : decode cX9_readRecipe 21 = .ok (.putfield 227, 3) := by decide +kernel
theorem dX9_readRecipe_24 : decode cX9_readRecipe 24 = .ok (.aload_n 0, 1) := by decide +kernel
theorem dX9_readRecipe_25 : decode cX9_readRecipe 25 = .ok (.iconst 0, 1) := by decide +kernel
theorem dX9_readRecipe_26 : decode cX9_readRecipe 26 = .ok (.putfield 256, 3) := by decide +kernel
theorem dX9_readRecipe_29 : decode cX9_readRecipe 29 = .ok (.aload_n 0, 1) := by decide +kernel
theorem dX9_readRecipe_30 : decode cX9_readRecipe 30 = .ok (.iconst 0, 1) := by decide +kernel
theorem dX9_readRecipe_31 : decode cX9_readRecipe 31 = .ok (.putfield 259, 3) := by decide +kernel
theorem dX9_readRecipe_34 : decode cX9_readRecipe 34 = .ok (.aload_n 0, 1) := by decide +kernel
theorem dX9_readRecipe_35 : decode cX9_readRecipe 35 = .ok (.iconst 0, 1) := by decide +kernel
theorem dX9_readRecipe_36 : decode cX9_readRecipe 36 = .ok (.putfield 262, 3) := by decide +kernel
theorem dX9_readRecipe_39 : decode cX9_readRecipe 39 = .ok (.aload_n 0, 1) := by decide +kernel
theorem dX9_readRecipe_40 : decode cX9_readRecipe 40 = .ok (.iconst 0, 1) := by decide +kernel
theorem dX9_readRecipe_41 : decode cX9_readRecipe 41 = .ok (.putfield 253, 3) := by decide +kernel
theorem dX9_readRecipe_44 : decode cX9_readRecipe 44 = .ok (.aload_n 0, 1) := by decide +kernel
theorem dX9_readRecipe_45 : decode cX9_readRecipe 45 = .ok (.iconst 0, 1) := by decide +kernel
theorem dX9_readRecipe_46 : decode cX9_readRecipe 46 = .ok (.putfield 269, 3) := by decide +kernel
theorem dX9_readRecipe_49 : decode cX9_readRecipe 49 = .ok (.aload_n 0, 1) := by decide +kernel
theorem dX9_readRecipe_50 : decode cX9_readRecipe 50 = .ok (.invokevirtual 272, 3) := by decide +kernel
theorem dX9_readRecipe_53 : decode cX9_readRecipe 53 = .ok (.aload_n 0, 1) := by decide +kernel
theorem dX9_readRecipe_54 : decode cX9_readRecipe 54 = .ok (.getfield 236, 3) := by decide +kernel
theorem dX9_readRecipe_57 : decode cX9_readRecipe 57 = .ok (.ifCond .eq 32, 3) := by decide +kernel
theorem dX9_readRecipe_60 : decode cX9_readRecipe 60 = .ok (.aload_n 0, 1) := by decide +kernel
theorem dX9_readRecipe_61 : decode cX9_readRecipe 61 = .ok (.getfield 236, 3) := by decide +kernel
theorem dX9_readRecipe_64 : decode cX9_readRecipe 64 = .ok (.iconst 4, 1) := by decide +kernel
theorem dX9_readRecipe_65 : decode cX9_readRecipe 65 = .ok (.if_icmp .ne 10, 3) := by decide +kernel
theorem dX9_readRecipe_68 : decode cX9_readRecipe 68 = .ok (.aload_n 0, 1) := by decide +kernel
theorem dX9_readRecipe_69 : decode cX9_readRecipe 69 = .ok (.invokevirtual 289, 3) := by decide +kernel
theorem dX9_readRecipe_72 : decode cX9_readRecipe 72 = .ok (.goto 7, 3) := by decide +kernel
theorem dX9_readRecipe_75 : decode cX9_readRecipe 75 = .ok (.aload_n 0, 1) := by decide +kernel
theorem dX9_readRecipe_76 : decode cX9_readRecipe 76 = .ok (.invokevirtual 292, 3) := by decide +kernel
theorem dX9_readRecipe_79 : decode cX9_readRecipe 79 = .ok (.istore_n 1, 1) := by decide +kernel
theorem dX9_readRecipe_80 : decode cX9_readRecipe 80 = .ok (.iload_n 1, 1) := by decide +kernel
theorem dX9_readRecipe_81 : decode cX9_readRecipe 81 = .ok (.ifCond .eq 5, 3) := by decide +kernel
theorem dX9_readRecipe_84 : decode cX9_readRecipe 84 = .ok (.iload_n 1, 1) := by decide +kernel
theorem dX9_readRecipe_85 : decode cX9_readRecipe 85 = .ok (.ireturn, 1) := by decide +kernel
theorem dX9_readRecipe_86 : decode cX9_readRecipe 86 = .ok (.goto (-33), 3) := by decide +kernel
theorem dX9_readRecipe_89 : decode cX9_readRecipe 89 = .ok (.aload_n 0, 1) := by decide +kernel
theorem dX9_readRecipe_90 : decode cX9_readRecipe 90 = .ok (.getfield 256, 3) := by decide +kernel
theorem dX9_readRecipe_93 : decode cX9_readRecipe 93 = .ok (.ifCond .le 7, 3) := by decide +kernel
theorem dX9_readRecipe_96 : decode cX9_readRecipe 96 = .ok (.iconst 1, 1) := by decide +kernel
theorem dX9_readRecipe_97 : decode cX9_readRecipe 97 = .ok (.goto 4, 3) := by decide +kernel
theorem dX9_readRecipe_100 : decode cX9_readRecipe 100 = .ok (.iconst 0, 1) := by decide +kernel
theorem dX9_readRecipe_101 : decode cX9_readRecipe 101 = .ok (.ireturn, 1) := by decide +kernel
theorem dX9_recipe_0 : decode cX9_recipe 0 = .ok (.iload_n 1, 1) := by decide +kernel
theorem dX9_recipe_1 : decode cX9_recipe 1 = .ok (.iconst 0, 1) := by decide +kernel
theorem dX9_recipe_2 : decode cX9_recipe 2 = .ok (.iconst 3, 1) := by decide +kernel
theorem dX9_recipe_3 : decode cX9_recipe 3 = .ok (.invokestatic 137, 3) := by decide +kernel
theorem dX9_recipe_6 : decode cX9_recipe 6 = .ok (.ifCond .ne 5, 3) := by decide +kernel
theorem dX9_recipe_9 : decode cX9_recipe 9 = .ok (.iconst (-1), 1) := by decide +kernel
theorem dX9_recipe_10 : decode cX9_recipe 10 = .ok (.ireturn, 1) := by decide +kernel
theorem dX9_recipe_11 : decode cX9_recipe 11 = .ok (.aload_n 0, 1) := by decide +kernel
theorem dX9_recipe_12 : decode cX9_recipe 12 = .ok (.aload_n 0, 1) := by decide +kernel
theorem dX9_recipe_13 : decode cX9_recipe 13 = .ok (.invokevirtual 295, 3) := by decide +kernel
theorem dX9_recipe_16 : decode cX9_recipe 16 = .ok (.putfield 16, 3) := by decide +kernel
theorem dX9_recipe_19 : decode cX9_recipe 19 = .ok (.aload_n 0, 1) := by decide +kernel
theorem dX9_recipe_20 : decode cX9_recipe 20 = .ok (.aload_n 0, 1) := by decide +kernel
theorem dX9_recipe_21 : decode cX9_recipe 21 = .ok (.getfield 16, 3) := by decide +kernel
theorem dX9_recipe_24 : decode cX9_recipe 24 = .ok (.ifCond .ne 7, 3) := by decide +kernel
theorem dX9_recipe_27 : decode cX9_recipe 27 = .ok (.iconst (-1), 1) := by decide +kernel
theorem dX9_recipe_28 : decode cX9_recipe 28 = .ok (.goto 7, 3) := by decide +kernel
theorem dX9_recipe_31 : decode cX9_recipe 31 = .ok (.aload_n 0, 1) := by decide +kernel
theorem dX9_recipe_32 : decode cX9_recipe 32 = .ok (.getfield 233, 3) := by decide +kernel
theorem dX9_recipe_35 : decode cX9_recipe 35 = .ok (.putfield 20, 3) := by decide +kernel
theorem dX9_recipe_38 : decode cX9_recipe 38 = .ok (.aload_n 0, 1) := by decide +kernel
theorem dX9_recipe_39 : decode cX9_recipe 39 = .ok (.iconst 0, 1) := by decide +kernel
theorem dX9_recipe_40 : decode cX9_recipe 40 = .ok (.putfield 130, 3) := by decide +kernel
theorem dX9_recipe_43 : decode cX9_recipe 43 = .ok (.aload_n 0, 1) := by decide +kernel
theorem dX9_recipe_44 : decode cX9_recipe 44 = .ok (.getfield 16, 3) := by decide +kernel
theorem dX9_recipe_47 : decode cX9_recipe 47 = .ok (.ifCond .eq 5, 3) := by decide +kernel
theorem dX9_recipe_50 : decode cX9_recipe 50 = .ok (.iconst (-1), 1) := by decide +kernel
theorem dX9_recipe_51 : decode cX9_recipe 51 = .ok (.ireturn, 1) := by decide +kernel
theorem dX9_recipe_52 : decode cX9_recipe 52 = .ok (.aload_n 0, 1) := by decide +kernel
theorem dX9_recipe_53 : decode cX9_recipe 53 = .ok (.getfield 85, 3) := by decide +kernel
theorem dX9_recipe_56 : decode cX9_recipe 56 = .ok (.iload_n 1, 1) := by decide +kernel
theorem dX9_recipe_57 : decode cX9_recipe 57 = .ok (.aload_n 0, 1) := by decide +kernel
theorem dX9_recipe_58 : decode cX9_recipe 58 = .ok (.getfield 253, 3) := by decide +kernel
theorem dX9_recipe_61 : decode cX9_recipe 61 = .ok (.iastore, 1) := by decide +kernel
theorem dX9_recipe_62 : decode cX9_recipe 62 = .ok (.aload_n 0, 1) := by decide +kernel
theorem dX9_recipe_63 : decode cX9_recipe 63 = .ok (.getfield 88, 3) := by decide +kernel
theorem dX9_recipe_66 : decode cX9_recipe 66 = .ok (.iload_n 1, 1) := by decide +kernel
theorem dX9_recipe_67 : decode cX9_recipe 67 = .ok (.aload_n 0, 1) := by decide +kernel
theorem dX9_recipe_68 : decode cX9_recipe 68 = .ok (.getfield 269, 3) := by decide +kernel
theorem dX9_recipe_71 : decode cX9_recipe 71 = .ok (.iastore, 1) := by decide +kernel
theorem dX9_recipe_72 : decode cX9_recipe 72 = .ok (.aload_n 0, 1) := by decide +kernel
theorem dX9_recipe_73 : decode cX9_recipe 73 = .ok (.getfield 100, 3) := by decide +kernel
theorem dX9_recipe_76 : decode cX9_recipe 76 = .ok (.iload_n 1, 1) := by decide +kernel
theorem dX9_recipe_77 : decode cX9_recipe 77 = .ok (.aload_n 0, 1) := by decide +kernel
theorem dX9_recipe_78 : decode cX9_recipe 78 = .ok (.getfield 259, 3) := by decide +kernel
theorem dX9_recipe_81 : decode cX9_recipe 81 = .ok (.iastore, 1) := by decide +kernel
theorem dX9_recipe_82 : decode cX9_recipe 82 = .ok (.aload_n 0, 1) := by decide +kernel
theorem dX9_recipe_83 : decode cX9_recipe 83 = .ok (.getfield 103, 3) := by decide +kernel
theorem dX9_recipe_86 : decode cX9_recipe 86 = .ok (.iload_n 1, 1) := by decide +kernel
theorem dX9_recipe_87 : decode cX9_recipe 87 = .ok (.aload_n 0, 1) := by decide +kernel
theorem dX9_recipe_88 : decode cX9_recipe 88 = .ok (.getfield 262, 3) := by decide +kernel
theorem dX9_recipe_91 : decode cX9_recipe 91 = .ok (.iastore, 1) := by decide +kernel
theorem dX9_recipe_92 : decode cX9_recipe 92 = .ok (.iconst 0, 1) := by decide +kernel
theorem dX9_recipe_93 : decode cX9_recipe 93 = .ok (.istore_n 2, 1) := by decide +kernel
theorem dX9_recipe_94 : decode cX9_recipe 94 = .ok (.iload_n 2, 1) := by decide +kernel
theorem dX9_recipe_95 : decode cX9_recipe 95 = .ok (.aload_n 0, 1) := by decide +kernel
theorem dX9_recipe_96 : decode cX9_recipe 96 = .ok (.getfield 253, 3) := by decide +kernel
theorem dX9_recipe_99 : decode cX9_recipe 99 = .ok (.if_icmp .ge 72, 3) := by decide +kernel
theorem dX9_recipe_102 : decode cX9_recipe 102 = .ok (.aload_n 0, 1) := by decide +kernel
theorem dX9_recipe_103 : decode cX9_recipe 103 = .ok (.getfield 91, 3) := by decide +kernel
theorem dX9_recipe_106 : decode cX9_recipe 106 = .ok (.bipush 100, 2) := by decide +kernel
theorem dX9_recipe_108 : decode cX9_recipe 108 = .ok (.iload_n 1, 1) := by decide +kernel
theorem dX9_recipe_109 : decode cX9_recipe 109 = .ok (.imul, 1) := by decide +kernel
theorem dX9_recipe_110 : decode cX9_recipe 110 = .ok (.iload_n 2, 1) := by decide +kernel
theorem dX9_recipe_111 : decode cX9_recipe 111 = .ok (.iadd, 1) := by decide +kernel
theorem dX9_recipe_112 : decode cX9_recipe 112 = .ok (.aload_n 0, 1) := by decide +kernel
theorem dX9_recipe_113 : decode cX9_recipe 113 = .ok (.getfield 91, 3) := by decide +kernel
theorem dX9_recipe_116 : decode cX9_recipe 116 = .ok (.sipush 400, 3) := by decide +kernel
theorem dX9_recipe_119 : decode cX9_recipe 119 = .ok (.iload_n 2, 1) := by decide +kernel
theorem dX9_recipe_120 : decode cX9_recipe 120 = .ok (.iadd, 1) := by decide +kernel
theorem dX9_recipe_121 : decode cX9_recipe 121 = .ok (.iaload, 1) := by decide +kernel
theorem dX9_recipe_122 : decode cX9_recipe 122 = .ok (.iastore, 1) := by decide +kernel
theorem dX9_recipe_123 : decode cX9_recipe 123 = .ok (.aload_n 0, 1) := by decide +kernel
theorem dX9_recipe_124 : decode cX9_recipe 124 = .ok (.getfield 94, 3) := by decide +kernel
theorem dX9_recipe_127 : decode cX9_recipe 127 = .ok (.bipush 100, 2) := by decide +kernel
theorem dX9_recipe_129 : decode cX9_recipe 129 = .ok (.iload_n 1, 1) := by decide +kernel
theorem dX9_recipe_130 : decode cX9_recipe 130 = .ok (.imul, 1) := by decide +kernel
theorem dX9_recipe_131 : decode cX9_recipe 131 = .ok (.iload_n 2, 1) := by decide +kernel
theorem dX9_recipe_132 : decode cX9_recipe 132 = .ok (.iadd, 1) := by decide +kernel
theorem dX9_recipe_133 : decode cX9_recipe 133 = .ok (.aload_n 0, 1) := by decide +kernel
theorem dX9_recipe_134 : decode cX9_recipe 134 = .ok (.getfield 94, 3) := by decide +kernel
theorem dX9_recipe_137 : decode cX9_recipe 137 = .ok (.sipush 400, 3) := by decide +kernel
theorem dX9_recipe_140 : decode cX9_recipe 140 = .ok (.iload_n 2, 1) := by decide +kernel
theorem dX9_recipe_141 : decode cX9_recipe 141 = .ok (.iadd, 1) := by decide +kernel
theorem dX9_recipe_142 : decode cX9_recipe 142 = .ok (.iaload, 1) := by decide +kernel
theorem dX9_recipe_143 : decode cX9_recipe 143 = .ok (.iastore, 1) := by decide +kernel
theorem dX9_recipe_144 : decode cX9_recipe 144 = .ok (.aload_n 0, 1) := by decide +kernel
theorem dX9_recipe_145 : decode cX9_recipe 145 = .ok (.getfield 97, 3) := by decide +kernel
theorem dX9_recipe_148 : decode cX9_recipe 148 = .ok (.bipush 100, 2) := by decide +kernel
theorem dX9_recipe_150 : decode cX9_recipe 150 = .ok (.iload_n 1, 1) := by decide +kernel
theorem dX9_recipe_151 : decode cX9_recipe 151 = .ok (.imul, 1) := by decide +kernel
theorem dX9_recipe_152 : decode cX9_recipe 152 = .ok (.iload_n 2, 1) := by decide +kernel
theorem dX9_recipe_153 : decode cX9_recipe 153 = .ok (.iadd, 1) := by decide +kernel
theorem dX9_recipe_154 : decode cX9_recipe 154 = .ok (.aload_n 0, 1) := by decide +kernel
theorem dX9_recipe_155 : decode cX9_recipe 155 = .ok (.getfield 97, 3) := by decide +kernel
theorem dX9_recipe_158 : decode cX9_recipe 158 = .ok (.sipush 400, 3) := by decide +kernel
theorem dX9_recipe_161 : decode cX9_recipe 161 = .ok (.iload_n 2, 1) := by decide +kernel
theorem dX9_recipe_162 : decode cX9_recipe 162 = .ok (.iadd, 1) := by decide +kernel
theorem dX9_recipe_163 : decode cX9_recipe 163 = .ok (.iaload, 1) := by decide +kernel
theorem dX9_recipe_164 : decode cX9_recipe 164 = .ok (.iastore, 1) := by decide +kernel
theorem dX9_recipe_165 : decode cX9_recipe 165 = .ok (.iinc 2 1, 3) := by decide +kernel
theorem dX9_recipe_168 : decode cX9_recipe 168 = .ok (.goto (-74), 3) := by decide +kernel
theorem dX9_recipe_171 : decode cX9_recipe 171 = .ok (.aload_n 0, 1) := by decide +kernel
theorem dX9_recipe_172 : decode cX9_recipe 172 = .ok (.getfield 269, 3) := by decide +kernel
theorem dX9_recipe_175 : decode cX9_recipe 175 = .ok (.ireturn, 1) := by decide +kernel
theorem dX9_flow_0 : decode cX9_flow 0 = .ok (.iload_n 2, 1) := by decide +kernel
theorem dX9_flow_1 : decode cX9_flow 1 = .ok (.aload_n 0, 1) := by decide +kernel
theorem dX9_flow_2 : decode cX9_flow 2 = .ok (.getfield 124, 3) := by decide +kernel
theorem dX9_flow_5 : decode cX9_flow 5 = .ok (.iload_n 1, 1) := by decide +kernel
theorem dX9_flow_6 : decode cX9_flow 6 = .ok (.iaload, 1) := by decide +kernel
theorem dX9_flow_7 : decode cX9_flow 7 = .ok (.iconst (-1), 1) := by decide +kernel
theorem dX9_flow_8 : decode cX9_flow 8 = .ok (.ixor, 1) := by decide +kernel
theorem dX9_flow_9 : decode cX9_flow 9 = .ok (.iand, 1) := by decide +kernel
theorem dX9_flow_10 : decode cX9_flow 10 = .ok (.ifCond .ne 4, 3) := by decide +kernel
theorem dX9_flow_13 : decode cX9_flow 13 = .ok (.return_, 1) := by decide +kernel
theorem dX9_flow_14 : decode cX9_flow 14 = .ok (.aload_n 0, 1) := by decide +kernel
theorem dX9_flow_15 : decode cX9_flow 15 = .ok (.getfield 124, 3) := by decide +kernel
theorem dX9_flow_18 : decode cX9_flow 18 = .ok (.iload_n 1, 1) := by decide +kernel
theorem dX9_flow_19 : decode cX9_flow 19 = .ok (.dup2, 1) := by decide +kernel
theorem dX9_flow_20 : decode cX9_flow 20 = .ok (.iaload, 1) := by decide +kernel
theorem dX9_flow_21 : decode cX9_flow 21 = .ok (.iload_n 2, 1) := by decide +kernel
theorem dX9_flow_22 : decode cX9_flow 22 = .ok (.ior, 1) := by decide +kernel
theorem dX9_flow_23 : decode cX9_flow 23 = .ok (.iastore, 1) := by decide +kernel
theorem dX9_flow_24 : decode cX9_flow 24 = .ok (.aload_n 0, 1) := by decide +kernel
theorem dX9_flow_25 : decode cX9_flow 25 = .ok (.iconst 1, 1) := by decide +kernel
theorem dX9_flow_26 : decode cX9_flow 26 = .ok (.putfield 298, 3) := by decide +kernel
theorem dX9_flow_29 : decode cX9_flow 29 = .ok (.return_, 1) := by decide +kernel
theorem dX9_mostVolts_0 : decode cX9_mostVolts 0 = .ok (.iconst 0, 1) := by decide +kernel
theorem dX9_mostVolts_1 : decode cX9_mostVolts 1 = .ok (.istore_n 2, 1) := by decide +kernel
theorem dX9_mostVolts_2 : decode cX9_mostVolts 2 = .ok (.iload_n 2, 1) := by decide +kernel
theorem dX9_mostVolts_3 : decode cX9_mostVolts 3 = .ok (.bipush 100, 2) := by decide +kernel
theorem dX9_mostVolts_5 : decode cX9_mostVolts 5 = .ok (.if_icmp .gt 16, 3) := by decide +kernel
theorem dX9_mostVolts_8 : decode cX9_mostVolts 8 = .ok (.aload_n 0, 1) := by decide +kernel
theorem dX9_mostVolts_9 : decode cX9_mostVolts 9 = .ok (.getfield 124, 3) := by decide +kernel
theorem dX9_mostVolts_12 : decode cX9_mostVolts 12 = .ok (.iload_n 2, 1) := by decide +kernel
theorem dX9_mostVolts_13 : decode cX9_mostVolts 13 = .ok (.iconst 0, 1) := by decide +kernel
theorem dX9_mostVolts_14 : decode cX9_mostVolts 14 = .ok (.iastore, 1) := by decide +kernel
theorem dX9_mostVolts_15 : decode cX9_mostVolts 15 = .ok (.iinc 2 1, 3) := by decide +kernel
theorem dX9_mostVolts_18 : decode cX9_mostVolts 18 = .ok (.goto (-16), 3) := by decide +kernel
theorem dX9_mostVolts_21 : decode cX9_mostVolts 21 = .ok (.aload_n 0, 1) := by decide +kernel
theorem dX9_mostVolts_22 : decode cX9_mostVolts 22 = .ok (.getfield 124, 3) := by decide +kernel
theorem dX9_mostVolts_25 : decode cX9_mostVolts 25 = .ok (.iconst 0, 1) := by decide +kernel
theorem dX9_mostVolts_26 : decode cX9_mostVolts 26 = .ok (.iconst 1, 1) := by decide +kernel
theorem dX9_mostVolts_27 : decode cX9_mostVolts 27 = .ok (.iastore, 1) := by decide +kernel
theorem dX9_mostVolts_28 : decode cX9_mostVolts 28 = .ok (.aload_n 0, 1) := by decide +kernel
theorem dX9_mostVolts_29 : decode cX9_mostVolts 29 = .ok (.iconst 1, 1) := by decide +kernel
theorem dX9_mostVolts_30 : decode cX9_mostVolts 30 = .ok (.putfield 298, 3) := by decide +kernel
theorem dX9_mostVolts_33 : decode cX9_mostVolts 33 = .ok (.aload_n 0, 1) := by decide +kernel
theorem dX9_mostVolts_34 : decode cX9_mostVolts 34 = .ok (.getfield 298, 3) := by decide +kernel
theorem dX9_mostVolts_37 : decode cX9_mostVolts 37 = .ok (.ifCond .eq 38, 3) := by decide +kernel
theorem dX9_mostVolts_40 : decode cX9_mostVolts 40 = .ok (.aload_n 0, 1) := by decide +kernel
theorem dX9_mostVolts_41 : decode cX9_mostVolts 41 = .ok (.iconst 0, 1) := by decide +kernel
theorem dX9_mostVolts_42 : decode cX9_mostVolts 42 = .ok (.putfield 298, 3) := by decide +kernel
theorem dX9_mostVolts_45 : decode cX9_mostVolts 45 = .ok (.iconst 0, 1) := by decide +kernel
theorem dX9_mostVolts_46 : decode cX9_mostVolts 46 = .ok (.istore_n 2, 1) := by decide +kernel
theorem dX9_mostVolts_47 : decode cX9_mostVolts 47 = .ok (.iload_n 2, 1) := by decide +kernel
theorem dX9_mostVolts_48 : decode cX9_mostVolts 48 = .ok (.aload_n 0, 1) := by decide +kernel
theorem dX9_mostVolts_49 : decode cX9_mostVolts 49 = .ok (.getfield 85, 3) := by decide +kernel
theorem dX9_mostVolts_52 : decode cX9_mostVolts 52 = .ok (.iload_n 1, 1) := by decide +kernel
theorem dX9_mostVolts_53 : decode cX9_mostVolts 53 = .ok (.iaload, 1) := by decide +kernel
theorem dX9_mostVolts_54 : decode cX9_mostVolts 54 = .ok (.if_icmp .ge 18, 3) := by decide +kernel
theorem dX9_mostVolts_57 : decode cX9_mostVolts 57 = .ok (.aload_n 0, 1) := by decide +kernel
theorem dX9_mostVolts_58 : decode cX9_mostVolts 58 = .ok (.bipush 100, 2) := by decide +kernel
theorem dX9_mostVolts_60 : decode cX9_mostVolts 60 = .ok (.iload_n 1, 1) := by decide +kernel
theorem dX9_mostVolts_61 : decode cX9_mostVolts 61 = .ok (.imul, 1) := by decide +kernel
theorem dX9_mostVolts_62 : decode cX9_mostVolts 62 = .ok (.iload_n 2, 1) := by decide +kernel
theorem dX9_mostVolts_63 : decode cX9_mostVolts 63 = .ok (.invokevirtual 301, 3) := by decide +kernel
theorem dX9_mostVolts_66 : decode cX9_mostVolts 66 = .ok (.iinc 2 1, 3) := by decide +kernel
theorem dX9_mostVolts_69 : decode cX9_mostVolts 69 = .ok (.goto (-22), 3) := by decide +kernel
theorem dX9_mostVolts_72 : decode cX9_mostVolts 72 = .ok (.goto (-39), 3) := by decide +kernel
theorem dX9_mostVolts_75 : decode cX9_mostVolts 75 = .ok (.iconst (-1), 1) := by decide +kernel
theorem dX9_mostVolts_76 : decode cX9_mostVolts 76 = .ok (.istore_n 2, 1) := by decide +kernel
theorem dX9_mostVolts_77 : decode cX9_mostVolts 77 = .ok (.iconst 0, 1) := by decide +kernel
theorem dX9_mostVolts_78 : decode cX9_mostVolts 78 = .ok (.istore_n 3, 1) := by decide +kernel
theorem dX9_mostVolts_79 : decode cX9_mostVolts 79 = .ok (.iload_n 3, 1) := by decide +kernel
theorem dX9_mostVolts_80 : decode cX9_mostVolts 80 = .ok (.aload_n 0, 1) := by decide +kernel
theorem dX9_mostVolts_81 : decode cX9_mostVolts 81 = .ok (.getfield 85, 3) := by decide +kernel
theorem dX9_mostVolts_84 : decode cX9_mostVolts 84 = .ok (.iload_n 1, 1) := by decide +kernel
theorem dX9_mostVolts_85 : decode cX9_mostVolts 85 = .ok (.iaload, 1) := by decide +kernel
theorem dX9_mostVolts_86 : decode cX9_mostVolts 86 = .ok (.if_icmp .ge 64, 3) := by decide +kernel
theorem dX9_mostVolts_89 : decode cX9_mostVolts 89 = .ok (.iconst 0, 1) := by decide +kernel
theorem dX9_mostVolts_90 : decode cX9_mostVolts 90 = .ok (.istore 4, 2) := by decide +kernel
theorem dX9_mostVolts_92 : decode cX9_mostVolts 92 = .ok (.iload 4, 2) := by decide +kernel
theorem dX9_mostVolts_94 : decode cX9_mostVolts 94 = .ok (.bipush 31, 2) := by decide +kernel
theorem dX9_mostVolts_96 : decode cX9_mostVolts 96 = .ok (.if_icmp .ge 48, 3) := by decide +kernel
theorem dX9_mostVolts_99 : decode cX9_mostVolts 99 = .ok (.aload_n 0, 1) := by decide +kernel
theorem dX9_mostVolts_100 : decode cX9_mostVolts 100 = .ok (.getfield 91, 3) := by decide +kernel
theorem dX9_mostVolts_103 : decode cX9_mostVolts 103 = .ok (.bipush 100, 2) := by decide +kernel
theorem dX9_mostVolts_105 : decode cX9_mostVolts 105 = .ok (.iload_n 1, 1) := by decide +kernel
theorem dX9_mostVolts_106 : decode cX9_mostVolts 106 = .ok (.imul, 1) := by decide +kernel
theorem dX9_mostVolts_107 : decode cX9_mostVolts 107 = .ok (.iload_n 3, 1) := by decide +kernel
theorem dX9_mostVolts_108 : decode cX9_mostVolts 108 = .ok (.iadd, 1) := by decide +kernel
theorem dX9_mostVolts_109 : decode cX9_mostVolts 109 = .ok (.iaload, 1) := by decide +kernel
theorem dX9_mostVolts_110 : decode cX9_mostVolts 110 = .ok (.iconst 1, 1) := by decide +kernel
theorem dX9_mostVolts_111 : decode cX9_mostVolts 111 = .ok (.if_icmp .ne 33, 3) := by decide +kernel
theorem dX9_mostVolts_114 : decode cX9_mostVolts 114 = .ok (.aload_n 0, 1) := by decide +kernel
theorem dX9_mostVolts_115 : decode cX9_mostVolts 115 = .ok (.getfield 124, 3) := by decide +kernel
theorem dX9_mostVolts_118 : decode cX9_mostVolts 118 = .ok (.iload_n 3, 1) := by decide +kernel
theorem dX9_mostVolts_119 : decode cX9_mostVolts 119 = .ok (.iaload, 1) := by decide +kernel
theorem dX9_mostVolts_120 : decode cX9_mostVolts 120 = .ok (.iload 4, 2) := by decide +kernel
theorem dX9_mostVolts_122 : decode cX9_mostVolts 122 = .ok (.ishr, 1) := by decide +kernel
theorem dX9_mostVolts_123 : decode cX9_mostVolts 123 = .ok (.iconst 1, 1) := by decide +kernel
theorem dX9_mostVolts_124 : decode cX9_mostVolts 124 = .ok (.iand, 1) := by decide +kernel
theorem dX9_mostVolts_125 : decode cX9_mostVolts 125 = .ok (.iconst 1, 1) := by decide +kernel
theorem dX9_mostVolts_126 : decode cX9_mostVolts 126 = .ok (.if_icmp .ne 12, 3) := by decide +kernel
theorem dX9_mostVolts_129 : decode cX9_mostVolts 129 = .ok (.iload 4, 2) := by decide +kernel
theorem dX9_mostVolts_131 : decode cX9_mostVolts 131 = .ok (.iload_n 2, 1) := by decide +kernel
theorem dX9_mostVolts_132 : decode cX9_mostVolts 132 = .ok (.if_icmp .le 6, 3) := by decide +kernel
theorem dX9_mostVolts_135 : decode cX9_mostVolts 135 = .ok (.iload 4, 2) := by decide +kernel
theorem dX9_mostVolts_137 : decode cX9_mostVolts 137 = .ok (.istore_n 2, 1) := by decide +kernel
theorem dX9_mostVolts_138 : decode cX9_mostVolts 138 = .ok (.iinc 4 1, 3) := by decide +kernel
theorem dX9_mostVolts_141 : decode cX9_mostVolts 141 = .ok (.goto (-49), 3) := by decide +kernel
theorem dX9_mostVolts_144 : decode cX9_mostVolts 144 = .ok (.iinc 3 1, 3) := by decide +kernel
theorem dX9_mostVolts_147 : decode cX9_mostVolts 147 = .ok (.goto (-68), 3) := by decide +kernel
theorem dX9_mostVolts_150 : decode cX9_mostVolts 150 = .ok (.iload_n 2, 1) := by decide +kernel
theorem dX9_mostVolts_151 : decode cX9_mostVolts 151 = .ok (.ireturn, 1) := by decide +kernel
theorem dX9_flowFrom_0 : decode cX9_flowFrom 0 = .ok (.aload_n 0, 1) := by decide +kernel
theorem dX9_flowFrom_1 : decode cX9_flowFrom 1 = .ok (.getfield 124, 3) := by decide +kernel
theorem dX9_flowFrom_4 : decode cX9_flowFrom 4 = .ok (.iload_n 2, 1) := by decide +kernel
theorem dX9_flowFrom_5 : decode cX9_flowFrom 5 = .ok (.iaload, 1) := by decide +kernel
theorem dX9_flowFrom_6 : decode cX9_flowFrom 6 = .ok (.istore_n 3, 1) := by decide +kernel
theorem dX9_flowFrom_7 : decode cX9_flowFrom 7 = .ok (.iload_n 3, 1) := by decide +kernel
theorem dX9_flowFrom_8 : decode cX9_flowFrom 8 = .ok (.ifCond .ne 4, 3) := by decide +kernel
theorem dX9_flowFrom_11 : decode cX9_flowFrom 11 = .ok (.return_, 1) := by decide +kernel
theorem dX9_flowFrom_12 : decode cX9_flowFrom 12 = .ok (.aload_n 0, 1) := by decide +kernel
theorem dX9_flowFrom_13 : decode cX9_flowFrom 13 = .ok (.getfield 91, 3) := by decide +kernel
theorem dX9_flowFrom_16 : decode cX9_flowFrom 16 = .ok (.iload_n 1, 1) := by decide +kernel
theorem dX9_flowFrom_17 : decode cX9_flowFrom 17 = .ok (.iload_n 2, 1) := by decide +kernel
theorem dX9_flowFrom_18 : decode cX9_flowFrom 18 = .ok (.iadd, 1) := by decide +kernel
theorem dX9_flowFrom_19 : decode cX9_flowFrom 19 = .ok (.iaload, 1) := by decide +kernel
theorem dX9_flowFrom_20 : decode cX9_flowFrom 20 = .ok (.istore 4, 2) := by decide +kernel
theorem dX9_flowFrom_22 : decode cX9_flowFrom 22 = .ok (.iload 4, 2) := by decide +kernel
theorem dX9_flowFrom_24 : decode cX9_flowFrom 24 = .ok (.ifCond .ne 23, 3) := by decide +kernel
theorem dX9_flowFrom_27 : decode cX9_flowFrom 27 = .ok (.aload_n 0, 1) := by decide +kernel
theorem dX9_flowFrom_28 : decode cX9_flowFrom 28 = .ok (.iload_n 2, 1) := by decide +kernel
theorem dX9_flowFrom_29 : decode cX9_flowFrom 29 = .ok (.iconst 1, 1) := by decide +kernel
theorem dX9_flowFrom_30 : decode cX9_flowFrom 30 = .ok (.iadd, 1) := by decide +kernel
theorem dX9_flowFrom_31 : decode cX9_flowFrom 31 = .ok (.iconst 1, 1) := by decide +kernel
theorem dX9_flowFrom_32 : decode cX9_flowFrom 32 = .ok (.aload_n 0, 1) := by decide +kernel
theorem dX9_flowFrom_33 : decode cX9_flowFrom 33 = .ok (.getfield 94, 3) := by decide +kernel
theorem dX9_flowFrom_36 : decode cX9_flowFrom 36 = .ok (.iload_n 1, 1) := by decide +kernel
theorem dX9_flowFrom_37 : decode cX9_flowFrom 37 = .ok (.iload_n 2, 1) := by decide +kernel
theorem dX9_flowFrom_38 : decode cX9_flowFrom 38 = .ok (.iadd, 1) := by decide +kernel
theorem dX9_flowFrom_39 : decode cX9_flowFrom 39 = .ok (.iaload, 1) := by decide +kernel
theorem dX9_flowFrom_40 : decode cX9_flowFrom 40 = .ok (.ishl, 1) := by decide +kernel
theorem dX9_flowFrom_41 : decode cX9_flowFrom 41 = .ok (.invokevirtual 304, 3) := by decide +kernel
theorem dX9_flowFrom_44 : decode cX9_flowFrom 44 = .ok (.goto 116, 3) := by decide +kernel
theorem dX9_flowFrom_47 : decode cX9_flowFrom 47 = .ok (.iload 4, 2) := by decide +kernel
theorem dX9_flowFrom_49 : decode cX9_flowFrom 49 = .ok (.iconst 3, 1) := by decide +kernel
theorem dX9_flowFrom_50 : decode cX9_flowFrom 50 = .ok (.if_icmp .eq 9, 3) := by decide +kernel
theorem dX9_flowFrom_53 : decode cX9_flowFrom 53 = .ok (.iload 4, 2) := by decide +kernel
theorem dX9_flowFrom_55 : decode cX9_flowFrom 55 = .ok (.iconst 5, 1) := by decide +kernel
theorem dX9_flowFrom_56 : decode cX9_flowFrom 56 = .ok (.if_icmp .ne 27, 3) := by decide +kernel
theorem dX9_flowFrom_59 : decode cX9_flowFrom 59 = .ok (.aload_n 0, 1) := by decide +kernel
theorem dX9_flowFrom_60 : decode cX9_flowFrom 60 = .ok (.iload_n 2, 1) := by decide +kernel
theorem dX9_flowFrom_61 : decode cX9_flowFrom 61 = .ok (.iconst 1, 1) := by decide +kernel
theorem dX9_flowFrom_62 : decode cX9_flowFrom 62 = .ok (.iadd, 1) := by decide +kernel
theorem dX9_flowFrom_63 : decode cX9_flowFrom 63 = .ok (.iload_n 3, 1) := by decide +kernel
theorem dX9_flowFrom_64 : decode cX9_flowFrom 64 = .ok (.invokevirtual 304, 3) := by decide +kernel
theorem dX9_flowFrom_67 : decode cX9_flowFrom 67 = .ok (.aload_n 0, 1) := by decide +kernel
theorem dX9_flowFrom_68 : decode cX9_flowFrom 68 = .ok (.aload_n 0, 1) := by decide +kernel
theorem dX9_flowFrom_69 : decode cX9_flowFrom 69 = .ok (.getfield 97, 3) := by decide +kernel
theorem dX9_flowFrom_72 : decode cX9_flowFrom 72 = .ok (.iload_n 1, 1) := by decide +kernel
theorem dX9_flowFrom_73 : decode cX9_flowFrom 73 = .ok (.iload_n 2, 1) := by decide +kernel
theorem dX9_flowFrom_74 : decode cX9_flowFrom 74 = .ok (.iadd, 1) := by decide +kernel
theorem dX9_flowFrom_75 : decode cX9_flowFrom 75 = .ok (.iaload, 1) := by decide +kernel
theorem dX9_flowFrom_76 : decode cX9_flowFrom 76 = .ok (.iload_n 3, 1) := by decide +kernel
theorem dX9_flowFrom_77 : decode cX9_flowFrom 77 = .ok (.invokevirtual 304, 3) := by decide +kernel
theorem dX9_flowFrom_80 : decode cX9_flowFrom 80 = .ok (.goto 80, 3) := by decide +kernel
theorem dX9_flowFrom_83 : decode cX9_flowFrom 83 = .ok (.iload 4, 2) := by decide +kernel
theorem dX9_flowFrom_85 : decode cX9_flowFrom 85 = .ok (.iconst 4, 1) := by decide +kernel
theorem dX9_flowFrom_86 : decode cX9_flowFrom 86 = .ok (.if_icmp .ne 48, 3) := by decide +kernel
theorem dX9_flowFrom_89 : decode cX9_flowFrom 89 = .ok (.aload_n 0, 1) := by decide +kernel
theorem dX9_flowFrom_90 : decode cX9_flowFrom 90 = .ok (.iload_n 2, 1) := by decide +kernel
theorem dX9_flowFrom_91 : decode cX9_flowFrom 91 = .ok (.iconst 1, 1) := by decide +kernel
theorem dX9_flowFrom_92 : decode cX9_flowFrom 92 = .ok (.iadd, 1) := by decide +kernel
theorem dX9_flowFrom_93 : decode cX9_flowFrom 93 = .ok (.iload_n 3, 1) := by decide +kernel
theorem dX9_flowFrom_94 : decode cX9_flowFrom 94 = .ok (.invokevirtual 304, 3) := by decide +kernel
theorem dX9_flowFrom_97 : decode cX9_flowFrom 97 = .ok (.aload_n 0, 1) := by decide +kernel
theorem dX9_flowFrom_98 : decode cX9_flowFrom 98 = .ok (.getfield 94, 3) := by decide +kernel
theorem dX9_flowFrom_101 : decode cX9_flowFrom 101 = .ok (.iload_n 1, 1) := by decide +kernel
theorem dX9_flowFrom_102 : decode cX9_flowFrom 102 = .ok (.aload_n 0, 1) := by decide +kernel
theorem dX9_flowFrom_103 : decode cX9_flowFrom 103 = .ok (.getfield 97, 3) := by decide +kernel
theorem dX9_flowFrom_106 : decode cX9_flowFrom 106 = .ok (.iload_n 1, 1) := by decide +kernel
theorem dX9_flowFrom_107 : decode cX9_flowFrom 107 = .ok (.iload_n 2, 1) := by decide +kernel
theorem dX9_flowFrom_108 : decode cX9_flowFrom 108 = .ok (.iadd, 1) := by decide +kernel
theorem dX9_flowFrom_109 : decode cX9_flowFrom 109 = .ok (.iaload, 1) := by decide +kernel
theorem dX9_flowFrom_110 : decode cX9_flowFrom 110 = .ok (.iadd, 1) := by decide +kernel
theorem dX9_flowFrom_111 : decode cX9_flowFrom 111 = .ok (.iaload, 1) := by decide +kernel
theorem dX9_flowFrom_112 : decode cX9_flowFrom 112 = .ok (.iconst 1, 1) := by decide +kernel
theorem dX9_flowFrom_113 : decode cX9_flowFrom 113 = .ok (.if_icmp .le 47, 3) := by decide +kernel
theorem dX9_flowFrom_116 : decode cX9_flowFrom 116 = .ok (.aload_n 0, 1) := by decide +kernel
theorem dX9_flowFrom_117 : decode cX9_flowFrom 117 = .ok (.aload_n 0, 1) := by decide +kernel
theorem dX9_flowFrom_118 : decode cX9_flowFrom 118 = .ok (.getfield 97, 3) := by decide +kernel
theorem dX9_flowFrom_121 : decode cX9_flowFrom 121 = .ok (.iload_n 1, 1) := by decide +kernel
theorem dX9_flowFrom_122 : decode cX9_flowFrom 122 = .ok (.iload_n 2, 1) := by decide +kernel
theorem dX9_flowFrom_123 : decode cX9_flowFrom 123 = .ok (.iadd, 1) := by decide +kernel
theorem dX9_flowFrom_124 : decode cX9_flowFrom 124 = .ok (.iaload, 1) := by decide +kernel
theorem dX9_flowFrom_125 : decode cX9_flowFrom 125 = .ok (.iconst 1, 1) := by decide +kernel
theorem dX9_flowFrom_126 : decode cX9_flowFrom 126 = .ok (.iadd, 1) := by decide +kernel
theorem dX9_flowFrom_127 : decode cX9_flowFrom 127 = .ok (.iload_n 3, 1) := by decide +kernel
theorem dX9_flowFrom_128 : decode cX9_flowFrom 128 = .ok (.invokevirtual 304, 3) := by decide +kernel
theorem dX9_flowFrom_131 : decode cX9_flowFrom 131 = .ok (.goto 29, 3) := by decide +kernel
theorem dX9_flowFrom_134 : decode cX9_flowFrom 134 = .ok (.aload_n 0, 1) := by decide +kernel
theorem dX9_flowFrom_135 : decode cX9_flowFrom 135 = .ok (.iload 4, 2) := by decide +kernel
theorem dX9_flowFrom_137 : decode cX9_flowFrom 137 = .ok (.bipush 6, 2) := by decide +kernel
theorem dX9_flowFrom_139 : decode cX9_flowFrom 139 = .ok (.if_icmp .ne 14, 3) := by decide +kernel
theorem dX9_flowFrom_142 : decode cX9_flowFrom 142 = .ok (.aload_n 0, 1) := by decide +kernel
theorem dX9_flowFrom_143 : decode cX9_flowFrom 143 = .ok (.getfield 97, 3) := by decide +kernel
theorem dX9_flowFrom_146 : decode cX9_flowFrom 146 = .ok (.iload_n 1, 1) := by decide +kernel
theorem dX9_flowFrom_147 : decode cX9_flowFrom 147 = .ok (.iload_n 2, 1) := by decide +kernel
theorem dX9_flowFrom_148 : decode cX9_flowFrom 148 = .ok (.iadd, 1) := by decide +kernel
theorem dX9_flowFrom_149 : decode cX9_flowFrom 149 = .ok (.iaload, 1) := by decide +kernel
theorem dX9_flowFrom_150 : decode cX9_flowFrom 150 = .ok (.goto 6, 3) := by decide +kernel
theorem dX9_flowFrom_153 : decode cX9_flowFrom 153 = .ok (.iload_n 2, 1) := by decide +kernel
theorem dX9_flowFrom_154 : decode cX9_flowFrom 154 = .ok (.iconst 1, 1) := by decide +kernel
theorem dX9_flowFrom_155 : decode cX9_flowFrom 155 = .ok (.iadd, 1) := by decide +kernel
theorem dX9_flowFrom_156 : decode cX9_flowFrom 156 = .ok (.iload_n 3, 1) := by decide +kernel
theorem dX9_flowFrom_157 : decode cX9_flowFrom 157 = .ok (.invokevirtual 304, 3) := by decide +kernel
theorem dX9_flowFrom_160 : decode cX9_flowFrom 160 = .ok (.return_, 1) := by decide +kernel
theorem dX9_walk_0 : decode cX9_walk 0 = .ok (.iload_n 1, 1) := by decide +kernel
theorem dX9_walk_1 : decode cX9_walk 1 = .ok (.iconst 0, 1) := by decide +kernel
theorem dX9_walk_2 : decode cX9_walk 2 = .ok (.iconst 3, 1) := by decide +kernel
theorem dX9_walk_3 : decode cX9_walk 3 = .ok (.invokestatic 137, 3) := by decide +kernel
theorem dX9_walk_6 : decode cX9_walk 6 = .ok (.ifCond .ne 5, 3) := by decide +kernel
theorem dX9_walk_9 : decode cX9_walk 9 = .ok (.iconst (-1), 1) := by decide +kernel
theorem dX9_walk_10 : decode cX9_walk 10 = .ok (.ireturn, 1) := by decide +kernel
theorem dX9_walk_11 : decode cX9_walk 11 = .ok (.iload_n 2, 1) := by decide +kernel
theorem dX9_walk_12 : decode cX9_walk 12 = .ok (.tableswitch 95 0 3 #[32, 39, 45, 70], 32) := by decide +kernel
theorem dX9_walk_44 : decode cX9_walk 44 = .ok (.aload_n 0, 1) := by decide +kernel
theorem dX9_walk_45 : decode cX9_walk 45 = .ok (.getfield 88, 3) := by decide +kernel
theorem dX9_walk_48 : decode cX9_walk 48 = .ok (.iload_n 1, 1) := by decide +kernel
theorem dX9_walk_49 : decode cX9_walk 49 = .ok (.iaload, 1) := by decide +kernel
theorem dX9_walk_50 : decode cX9_walk 50 = .ok (.ireturn, 1) := by decide +kernel
theorem dX9_walk_51 : decode cX9_walk 51 = .ok (.aload_n 0, 1) := by decide +kernel
theorem dX9_walk_52 : decode cX9_walk 52 = .ok (.iload_n 1, 1) := by decide +kernel
theorem dX9_walk_53 : decode cX9_walk 53 = .ok (.invokevirtual 307, 3) := by decide +kernel
theorem dX9_walk_56 : decode cX9_walk 56 = .ok (.ireturn, 1) := by decide +kernel
theorem dX9_walk_57 : decode cX9_walk 57 = .ok (.aload_n 0, 1) := by decide +kernel
theorem dX9_walk_58 : decode cX9_walk 58 = .ok (.getfield 100, 3) := by decide +kernel
theorem dX9_walk_61 : decode cX9_walk 61 = .ok (.iload_n 1, 1) := by decide +kernel
theorem dX9_walk_62 : decode cX9_walk 62 = .ok (.iaload, 1) := by decide +kernel
theorem dX9_walk_63 : decode cX9_walk 63 = .ok (.ldc_w 310, 3) := by decide +kernel
theorem dX9_walk_66 : decode cX9_walk 66 = .ok (.if_icmp .le 9, 3) := by decide +kernel
theorem dX9_walk_69 : decode cX9_walk 69 = .ok (.ldc_w 310, 3) := by decide +kernel
theorem dX9_walk_72 : decode cX9_walk 72 = .ok (.goto 9, 3) := by decide +kernel
theorem dX9_walk_75 : decode cX9_walk 75 = .ok (.aload_n 0, 1) := by decide +kernel
theorem dX9_walk_76 : decode cX9_walk 76 = .ok (.getfield 100, 3) := by decide +kernel
theorem dX9_walk_79 : decode cX9_walk 79 = .ok (.iload_n 1, 1) := by decide +kernel
theorem dX9_walk_80 : decode cX9_walk 80 = .ok (.iaload, 1) := by decide +kernel
theorem dX9_walk_81 : decode cX9_walk 81 = .ok (.ireturn, 1) := by decide +kernel
theorem dX9_walk_82 : decode cX9_walk 82 = .ok (.aload_n 0, 1) := by decide +kernel
theorem dX9_walk_83 : decode cX9_walk 83 = .ok (.getfield 103, 3) := by decide +kernel
theorem dX9_walk_86 : decode cX9_walk 86 = .ok (.iload_n 1, 1) := by decide +kernel
theorem dX9_walk_87 : decode cX9_walk 87 = .ok (.iaload, 1) := by decide +kernel
theorem dX9_walk_88 : decode cX9_walk 88 = .ok (.ldc_w 310, 3) := by decide +kernel
theorem dX9_walk_91 : decode cX9_walk 91 = .ok (.if_icmp .le 9, 3) := by decide +kernel
theorem dX9_walk_94 : decode cX9_walk 94 = .ok (.ldc_w 310, 3) := by decide +kernel
theorem dX9_walk_97 : decode cX9_walk 97 = .ok (.goto 9, 3) := by decide +kernel
theorem dX9_walk_100 : decode cX9_walk 100 = .ok (.aload_n 0, 1) := by decide +kernel
theorem dX9_walk_101 : decode cX9_walk 101 = .ok (.getfield 103, 3) := by decide +kernel
theorem dX9_walk_104 : decode cX9_walk 104 = .ok (.iload_n 1, 1) := by decide +kernel
theorem dX9_walk_105 : decode cX9_walk 105 = .ok (.iaload, 1) := by decide +kernel
theorem dX9_walk_106 : decode cX9_walk 106 = .ok (.ireturn, 1) := by decide +kernel
theorem dX9_walk_107 : decode cX9_walk 107 = .ok (.iconst (-1), 1) := by decide +kernel
theorem dX9_walk_108 : decode cX9_walk 108 = .ok (.ireturn, 1) := by decide +kernel
theorem dX9_isFit_0 : decode cX9_isFit 0 = .ok (.aload_n 0, 1) := by decide +kernel
theorem dX9_isFit_1 : decode cX9_isFit 1 = .ok (.iload_n 2, 1) := by decide +kernel
theorem dX9_isFit_2 : decode cX9_isFit 2 = .ok (.invokevirtual 307, 3) := by decide +kernel
theorem dX9_isFit_5 : decode cX9_isFit 5 = .ok (.aload_n 0, 1) := by decide +kernel
theorem dX9_isFit_6 : decode cX9_isFit 6 = .ok (.getfield 45, 3) := by decide +kernel
theorem dX9_isFit_9 : decode cX9_isFit 9 = .ok (.iload_n 1, 1) := by decide +kernel
theorem dX9_isFit_10 : decode cX9_isFit 10 = .ok (.iaload, 1) := by decide +kernel
theorem dX9_isFit_11 : decode cX9_isFit 11 = .ok (.if_icmp .gt 34, 3) := by decide +kernel
theorem dX9_isFit_14 : decode cX9_isFit 14 = .ok (.aload_n 0, 1) := by decide +kernel
theorem dX9_isFit_15 : decode cX9_isFit 15 = .ok (.getfield 100, 3) := by decide +kernel
theorem dX9_isFit_18 : decode cX9_isFit 18 = .ok (.iload_n 2, 1) := by decide +kernel
theorem dX9_isFit_19 : decode cX9_isFit 19 = .ok (.iaload, 1) := by decide +kernel
theorem dX9_isFit_20 : decode cX9_isFit 20 = .ok (.aload_n 0, 1) := by decide +kernel
theorem dX9_isFit_21 : decode cX9_isFit 21 = .ok (.getfield 48, 3) := by decide +kernel
theorem dX9_isFit_24 : decode cX9_isFit 24 = .ok (.iload_n 1, 1) := by decide +kernel
theorem dX9_isFit_25 : decode cX9_isFit 25 = .ok (.iaload, 1) := by decide +kernel
theorem dX9_isFit_26 : decode cX9_isFit 26 = .ok (.if_icmp .gt 19, 3) := by decide +kernel
theorem dX9_isFit_29 : decode cX9_isFit 29 = .ok (.aload_n 0, 1) := by decide +kernel
theorem dX9_isFit_30 : decode cX9_isFit 30 = .ok (.getfield 103, 3) := by decide +kernel
theorem dX9_isFit_33 : decode cX9_isFit 33 = .ok (.iload_n 2, 1) := by decide +kernel
theorem dX9_isFit_34 : decode cX9_isFit 34 = .ok (.iaload, 1) := by decide +kernel
theorem dX9_isFit_35 : decode cX9_isFit 35 = .ok (.sipush 5000, 3) := by decide +kernel
theorem dX9_isFit_38 : decode cX9_isFit 38 = .ok (.if_icmp .gt 7, 3) := by decide +kernel
theorem dX9_isFit_41 : decode cX9_isFit 41 = .ok (.iconst 1, 1) := by decide +kernel
theorem dX9_isFit_42 : decode cX9_isFit 42 = .ok (.goto 4, 3) := by decide +kernel
theorem dX9_isFit_45 : decode cX9_isFit 45 = .ok (.iconst 0, 1) := by decide +kernel
theorem dX9_isFit_46 : decode cX9_isFit 46 = .ok (.ireturn, 1) := by decide +kernel
theorem dX9_last_0 : decode cX9_last 0 = .ok (.aload_n 0, 1) := by decide +kernel
theorem dX9_last_1 : decode cX9_last 1 = .ok (.iload_n 1, 1) := by decide +kernel
theorem dX9_last_2 : decode cX9_last 2 = .ok (.invokevirtual 207, 3) := by decide +kernel
theorem dX9_last_5 : decode cX9_last 5 = .ok (.istore 4, 2) := by decide +kernel
theorem dX9_last_7 : decode cX9_last 7 = .ok (.sipush 255, 3) := by decide +kernel
theorem dX9_last_10 : decode cX9_last 10 = .ok (.iload_n 2, 1) := by decide +kernel
theorem dX9_last_11 : decode cX9_last 11 = .ok (.isub, 1) := by decide +kernel
theorem dX9_last_12 : decode cX9_last 12 = .ok (.iload_n 3, 1) := by decide +kernel
theorem dX9_last_13 : decode cX9_last 13 = .ok (.idiv, 1) := by decide +kernel
theorem dX9_last_14 : decode cX9_last 14 = .ok (.iconst 1, 1) := by decide +kernel
theorem dX9_last_15 : decode cX9_last 15 = .ok (.iadd, 1) := by decide +kernel
theorem dX9_last_16 : decode cX9_last 16 = .ok (.istore 5, 2) := by decide +kernel
theorem dX9_last_18 : decode cX9_last 18 = .ok (.iload 4, 2) := by decide +kernel
theorem dX9_last_20 : decode cX9_last 20 = .ok (.iload 5, 2) := by decide +kernel
theorem dX9_last_22 : decode cX9_last 22 = .ok (.if_icmp .ge 8, 3) := by decide +kernel
theorem dX9_last_25 : decode cX9_last 25 = .ok (.iload 4, 2) := by decide +kernel
theorem dX9_last_27 : decode cX9_last 27 = .ok (.goto 5, 3) := by decide +kernel
theorem dX9_last_30 : decode cX9_last 30 = .ok (.iload 5, 2) := by decide +kernel
theorem dX9_last_32 : decode cX9_last 32 = .ok (.ireturn, 1) := by decide +kernel
theorem dX9_isPart_0 : decode cX9_isPart 0 = .ok (.iload_n 0, 1) := by decide +kernel
theorem dX9_isPart_1 : decode cX9_isPart 1 = .ok (.iconst 0, 1) := by decide +kernel
theorem dX9_isPart_2 : decode cX9_isPart 2 = .ok (.sipush 255, 3) := by decide +kernel
theorem dX9_isPart_5 : decode cX9_isPart 5 = .ok (.invokestatic 137, 3) := by decide +kernel
theorem dX9_isPart_8 : decode cX9_isPart 8 = .ok (.ifCond .eq 17, 3) := by decide +kernel
theorem dX9_isPart_11 : decode cX9_isPart 11 = .ok (.iload_n 1, 1) := by decide +kernel
theorem dX9_isPart_12 : decode cX9_isPart 12 = .ok (.iconst 1, 1) := by decide +kernel
theorem dX9_isPart_13 : decode cX9_isPart 13 = .ok (.bipush 8, 2) := by decide +kernel
theorem dX9_isPart_15 : decode cX9_isPart 15 = .ok (.invokestatic 137, 3) := by decide +kernel
theorem dX9_isPart_18 : decode cX9_isPart 18 = .ok (.ifCond .eq 7, 3) := by decide +kernel
theorem dX9_isPart_21 : decode cX9_isPart 21 = .ok (.iconst 1, 1) := by decide +kernel
theorem dX9_isPart_22 : decode cX9_isPart 22 = .ok (.goto 4, 3) := by decide +kernel
theorem dX9_isPart_25 : decode cX9_isPart 25 = .ok (.iconst 0, 1) := by decide +kernel
theorem dX9_isPart_26 : decode cX9_isPart 26 = .ok (.ireturn, 1) := by decide +kernel
theorem dX9_whyNot_0 : decode cX9_whyNot 0 = .ok (.aload_n 0, 1) := by decide +kernel
theorem dX9_whyNot_1 : decode cX9_whyNot 1 = .ok (.iload_n 1, 1) := by decide +kernel
theorem dX9_whyNot_2 : decode cX9_whyNot 2 = .ok (.invokevirtual 213, 3) := by decide +kernel
theorem dX9_whyNot_5 : decode cX9_whyNot 5 = .ok (.ifCond .lt 5, 3) := by decide +kernel
theorem dX9_whyNot_8 : decode cX9_whyNot 8 = .ok (.iconst 1, 1) := by decide +kernel
theorem dX9_whyNot_9 : decode cX9_whyNot 9 = .ok (.ireturn, 1) := by decide +kernel
theorem dX9_whyNot_10 : decode cX9_whyNot 10 = .ok (.aload_n 0, 1) := by decide +kernel
theorem dX9_whyNot_11 : decode cX9_whyNot 11 = .ok (.getfield 36, 3) := by decide +kernel
theorem dX9_whyNot_14 : decode cX9_whyNot 14 = .ok (.iload_n 1, 1) := by decide +kernel
theorem dX9_whyNot_15 : decode cX9_whyNot 15 = .ok (.iaload, 1) := by decide +kernel
theorem dX9_whyNot_16 : decode cX9_whyNot 16 = .ok (.iload_n 3, 1) := by decide +kernel
theorem dX9_whyNot_17 : decode cX9_whyNot 17 = .ok (.if_icmp .eq 5, 3) := by decide +kernel
theorem dX9_whyNot_20 : decode cX9_whyNot 20 = .ok (.iconst 2, 1) := by decide +kernel
theorem dX9_whyNot_21 : decode cX9_whyNot 21 = .ok (.ireturn, 1) := by decide +kernel
theorem dX9_whyNot_22 : decode cX9_whyNot 22 = .ok (.aload_n 0, 1) := by decide +kernel
theorem dX9_whyNot_23 : decode cX9_whyNot 23 = .ok (.iload_n 1, 1) := by decide +kernel
theorem dX9_whyNot_24 : decode cX9_whyNot 24 = .ok (.iload_n 2, 1) := by decide +kernel
theorem dX9_whyNot_25 : decode cX9_whyNot 25 = .ok (.invokevirtual 311, 3) := by decide +kernel
theorem dX9_whyNot_28 : decode cX9_whyNot 28 = .ok (.ifCond .ne 5, 3) := by decide +kernel
theorem dX9_whyNot_31 : decode cX9_whyNot 31 = .ok (.iconst 3, 1) := by decide +kernel
theorem dX9_whyNot_32 : decode cX9_whyNot 32 = .ok (.ireturn, 1) := by decide +kernel
theorem dX9_whyNot_33 : decode cX9_whyNot 33 = .ok (.iconst 0, 1) := by decide +kernel
theorem dX9_whyNot_34 : decode cX9_whyNot 34 = .ok (.istore 6, 2) := by decide +kernel
theorem dX9_whyNot_36 : decode cX9_whyNot 36 = .ok (.iload 6, 2) := by decide +kernel
theorem dX9_whyNot_38 : decode cX9_whyNot 38 = .ok (.aload_n 0, 1) := by decide +kernel
theorem dX9_whyNot_39 : decode cX9_whyNot 39 = .ok (.iload_n 1, 1) := by decide +kernel
theorem dX9_whyNot_40 : decode cX9_whyNot 40 = .ok (.iload 4, 2) := by decide +kernel
theorem dX9_whyNot_42 : decode cX9_whyNot 42 = .ok (.iload 5, 2) := by decide +kernel
theorem dX9_whyNot_44 : decode cX9_whyNot 44 = .ok (.invokevirtual 314, 3) := by decide +kernel
theorem dX9_whyNot_47 : decode cX9_whyNot 47 = .ok (.if_icmp .ge 70, 3) := by decide +kernel
theorem dX9_whyNot_50 : decode cX9_whyNot 50 = .ok (.bipush 64, 2) := by decide +kernel
theorem dX9_whyNot_52 : decode cX9_whyNot 52 = .ok (.iload_n 1, 1) := by decide +kernel
theorem dX9_whyNot_53 : decode cX9_whyNot 53 = .ok (.imul, 1) := by decide +kernel
theorem dX9_whyNot_54 : decode cX9_whyNot 54 = .ok (.aload_n 0, 1) := by decide +kernel
theorem dX9_whyNot_55 : decode cX9_whyNot 55 = .ok (.iload_n 1, 1) := by decide +kernel
theorem dX9_whyNot_56 : decode cX9_whyNot 56 = .ok (.iload 6, 2) := by decide +kernel
theorem dX9_whyNot_58 : decode cX9_whyNot 58 = .ok (.invokevirtual 210, 3) := by decide +kernel
theorem dX9_whyNot_61 : decode cX9_whyNot 61 = .ok (.iadd, 1) := by decide +kernel
theorem dX9_whyNot_62 : decode cX9_whyNot 62 = .ok (.istore 7, 2) := by decide +kernel
theorem dX9_whyNot_64 : decode cX9_whyNot 64 = .ok (.aload_n 0, 1) := by decide +kernel
theorem dX9_whyNot_65 : decode cX9_whyNot 65 = .ok (.getfield 7, 3) := by decide +kernel
theorem dX9_whyNot_68 : decode cX9_whyNot 68 = .ok (.iload 4, 2) := by decide +kernel
theorem dX9_whyNot_70 : decode cX9_whyNot 70 = .ok (.iload 5, 2) := by decide +kernel
theorem dX9_whyNot_72 : decode cX9_whyNot 72 = .ok (.iload 6, 2) := by decide +kernel
theorem dX9_whyNot_74 : decode cX9_whyNot 74 = .ok (.imul, 1) := by decide +kernel
theorem dX9_whyNot_75 : decode cX9_whyNot 75 = .ok (.iadd, 1) := by decide +kernel
theorem dX9_whyNot_76 : decode cX9_whyNot 76 = .ok (.iaload, 1) := by decide +kernel
theorem dX9_whyNot_77 : decode cX9_whyNot 77 = .ok (.istore 8, 2) := by decide +kernel
theorem dX9_whyNot_79 : decode cX9_whyNot 79 = .ok (.iload 8, 2) := by decide +kernel
theorem dX9_whyNot_81 : decode cX9_whyNot 81 = .ok (.aload_n 0, 1) := by decide +kernel
theorem dX9_whyNot_82 : decode cX9_whyNot 82 = .ok (.getfield 64, 3) := by decide +kernel
theorem dX9_whyNot_85 : decode cX9_whyNot 85 = .ok (.iload 7, 2) := by decide +kernel
theorem dX9_whyNot_87 : decode cX9_whyNot 87 = .ok (.iaload, 1) := by decide +kernel
theorem dX9_whyNot_88 : decode cX9_whyNot 88 = .ok (.iconst (-1), 1) := by decide +kernel
theorem dX9_whyNot_89 : decode cX9_whyNot 89 = .ok (.ixor, 1) := by decide +kernel
theorem dX9_whyNot_90 : decode cX9_whyNot 90 = .ok (.iand, 1) := by decide +kernel
theorem dX9_whyNot_91 : decode cX9_whyNot 91 = .ok (.ifCond .ne 18, 3) := by decide +kernel
theorem dX9_whyNot_94 : decode cX9_whyNot 94 = .ok (.iload 8, 2) := by decide +kernel
theorem dX9_whyNot_96 : decode cX9_whyNot 96 = .ok (.aload_n 0, 1) := by decide +kernel
theorem dX9_whyNot_97 : decode cX9_whyNot 97 = .ok (.getfield 67, 3) := by decide +kernel
theorem dX9_whyNot_100 : decode cX9_whyNot 100 = .ok (.iload 7, 2) := by decide +kernel
theorem dX9_whyNot_102 : decode cX9_whyNot 102 = .ok (.iaload, 1) := by decide +kernel
theorem dX9_whyNot_103 : decode cX9_whyNot 103 = .ok (.iconst (-1), 1) := by decide +kernel
theorem dX9_whyNot_104 : decode cX9_whyNot 104 = .ok (.ixor, 1) := by decide +kernel
theorem dX9_whyNot_105 : decode cX9_whyNot 105 = .ok (.iand, 1) := by decide +kernel
theorem dX9_whyNot_106 : decode cX9_whyNot 106 = .ok (.ifCond .eq 5, 3) := by decide +kernel
theorem dX9_whyNot_109 : decode cX9_whyNot 109 = .ok (.iconst 4, 1) := by decide +kernel
theorem dX9_whyNot_110 : decode cX9_whyNot 110 = .ok (.ireturn, 1) := by decide +kernel
theorem dX9_whyNot_111 : decode cX9_whyNot 111 = .ok (.iinc 6 1, 3) := by decide +kernel
theorem dX9_whyNot_114 : decode cX9_whyNot 114 = .ok (.goto (-78), 3) := by decide +kernel
theorem dX9_whyNot_117 : decode cX9_whyNot 117 = .ok (.iconst 0, 1) := by decide +kernel
theorem dX9_whyNot_118 : decode cX9_whyNot 118 = .ok (.ireturn, 1) := by decide +kernel
theorem dX9_why_0 : decode cX9_why 0 = .ok (.aload_n 0, 1) := by decide +kernel
theorem dX9_why_1 : decode cX9_why 1 = .ok (.iload_n 1, 1) := by decide +kernel
theorem dX9_why_2 : decode cX9_why 2 = .ok (.invokevirtual 199, 3) := by decide +kernel
theorem dX9_why_5 : decode cX9_why 5 = .ok (.ifCond .eq 33, 3) := by decide +kernel
theorem dX9_why_8 : decode cX9_why 8 = .ok (.iload_n 2, 1) := by decide +kernel
theorem dX9_why_9 : decode cX9_why 9 = .ok (.iconst 0, 1) := by decide +kernel
theorem dX9_why_10 : decode cX9_why 10 = .ok (.iconst 3, 1) := by decide +kernel
theorem dX9_why_11 : decode cX9_why 11 = .ok (.invokestatic 137, 3) := by decide +kernel
theorem dX9_why_14 : decode cX9_why 14 = .ok (.ifCond .eq 24, 3) := by decide +kernel
theorem dX9_why_17 : decode cX9_why 17 = .ok (.iload_n 3, 1) := by decide +kernel
theorem dX9_why_18 : decode cX9_why 18 = .ok (.iconst 0, 1) := by decide +kernel
theorem dX9_why_19 : decode cX9_why 19 = .ok (.sipush 255, 3) := by decide +kernel
theorem dX9_why_22 : decode cX9_why 22 = .ok (.invokestatic 137, 3) := by decide +kernel
theorem dX9_why_25 : decode cX9_why 25 = .ok (.ifCond .eq 13, 3) := by decide +kernel
theorem dX9_why_28 : decode cX9_why 28 = .ok (.iload 4, 2) := by decide +kernel
theorem dX9_why_30 : decode cX9_why 30 = .ok (.iload 5, 2) := by decide +kernel
theorem dX9_why_32 : decode cX9_why 32 = .ok (.invokestatic 317, 3) := by decide +kernel
theorem dX9_why_35 : decode cX9_why 35 = .ok (.ifCond .ne 5, 3) := by decide +kernel
theorem dX9_why_38 : decode cX9_why 38 = .ok (.iconst (-1), 1) := by decide +kernel
theorem dX9_why_39 : decode cX9_why 39 = .ok (.ireturn, 1) := by decide +kernel
theorem dX9_why_40 : decode cX9_why 40 = .ok (.aload_n 0, 1) := by decide +kernel
theorem dX9_why_41 : decode cX9_why 41 = .ok (.iload_n 1, 1) := by decide +kernel
theorem dX9_why_42 : decode cX9_why 42 = .ok (.iload_n 2, 1) := by decide +kernel
theorem dX9_why_43 : decode cX9_why 43 = .ok (.iload_n 3, 1) := by decide +kernel
theorem dX9_why_44 : decode cX9_why 44 = .ok (.iload 4, 2) := by decide +kernel
theorem dX9_why_46 : decode cX9_why 46 = .ok (.iload 5, 2) := by decide +kernel
theorem dX9_why_48 : decode cX9_why 48 = .ok (.invokevirtual 320, 3) := by decide +kernel
theorem dX9_why_51 : decode cX9_why 51 = .ok (.ireturn, 1) := by decide +kernel
theorem dX9_isWrong_0 : decode cX9_isWrong 0 = .ok (.aload_n 0, 1) := by decide +kernel
theorem dX9_isWrong_1 : decode cX9_isWrong 1 = .ok (.getfield 64, 3) := by decide +kernel
theorem dX9_isWrong_4 : decode cX9_isWrong 4 = .ok (.bipush 64, 2) := by decide +kernel
theorem dX9_isWrong_6 : decode cX9_isWrong 6 = .ok (.iload_n 1, 1) := by decide +kernel
theorem dX9_isWrong_7 : decode cX9_isWrong 7 = .ok (.imul, 1) := by decide +kernel
theorem dX9_isWrong_8 : decode cX9_isWrong 8 = .ok (.iload_n 2, 1) := by decide +kernel
theorem dX9_isWrong_9 : decode cX9_isWrong 9 = .ok (.iadd, 1) := by decide +kernel
theorem dX9_isWrong_10 : decode cX9_isWrong 10 = .ok (.iaload, 1) := by decide +kernel
theorem dX9_isWrong_11 : decode cX9_isWrong 11 = .ok (.iload_n 3, 1) := by decide +kernel
theorem dX9_isWrong_12 : decode cX9_isWrong 12 = .ok (.if_icmp .ne 18, 3) := by decide +kernel
theorem dX9_isWrong_15 : decode cX9_isWrong 15 = .ok (.aload_n 0, 1) := by decide +kernel
theorem dX9_isWrong_16 : decode cX9_isWrong 16 = .ok (.getfield 67, 3) := by decide +kernel
theorem dX9_isWrong_19 : decode cX9_isWrong 19 = .ok (.bipush 64, 2) := by decide +kernel
theorem dX9_isWrong_21 : decode cX9_isWrong 21 = .ok (.iload_n 1, 1) := by decide +kernel
theorem dX9_isWrong_22 : decode cX9_isWrong 22 = .ok (.imul, 1) := by decide +kernel
theorem dX9_isWrong_23 : decode cX9_isWrong 23 = .ok (.iload_n 2, 1) := by decide +kernel
theorem dX9_isWrong_24 : decode cX9_isWrong 24 = .ok (.iadd, 1) := by decide +kernel
theorem dX9_isWrong_25 : decode cX9_isWrong 25 = .ok (.iaload, 1) := by decide +kernel
theorem dX9_isWrong_26 : decode cX9_isWrong 26 = .ok (.iload_n 3, 1) := by decide +kernel
theorem dX9_isWrong_27 : decode cX9_isWrong 27 = .ok (.if_icmp .eq 7, 3) := by decide +kernel
theorem dX9_isWrong_30 : decode cX9_isWrong 30 = .ok (.iconst 1, 1) := by decide +kernel
theorem dX9_isWrong_31 : decode cX9_isWrong 31 = .ok (.goto 4, 3) := by decide +kernel
theorem dX9_isWrong_34 : decode cX9_isWrong 34 = .ok (.iconst 0, 1) := by decide +kernel
theorem dX9_isWrong_35 : decode cX9_isWrong 35 = .ok (.ireturn, 1) := by decide +kernel
theorem dX9_work_0 : decode cX9_work 0 = .ok (.bipush 100, 2) := by decide +kernel
theorem dX9_work_2 : decode cX9_work 2 = .ok (.iload_n 2, 1) := by decide +kernel
theorem dX9_work_3 : decode cX9_work 3 = .ok (.imul, 1) := by decide +kernel
theorem dX9_work_4 : decode cX9_work 4 = .ok (.istore 5, 2) := by decide +kernel
theorem dX9_work_6 : decode cX9_work 6 = .ok (.iconst 0, 1) := by decide +kernel
theorem dX9_work_7 : decode cX9_work 7 = .ok (.istore 6, 2) := by decide +kernel
theorem dX9_work_9 : decode cX9_work 9 = .ok (.iconst 0, 1) := by decide +kernel
theorem dX9_work_10 : decode cX9_work 10 = .ok (.istore 7, 2) := by decide +kernel
theorem dX9_work_12 : decode cX9_work 12 = .ok (.iconst 0, 1) := by decide +kernel
theorem dX9_work_13 : decode cX9_work 13 = .ok (.istore 8, 2) := by decide +kernel
theorem dX9_work_15 : decode cX9_work 15 = .ok (.iload 8, 2) := by decide +kernel
theorem dX9_work_17 : decode cX9_work 17 = .ok (.aload_n 0, 1) := by decide +kernel
theorem dX9_work_18 : decode cX9_work 18 = .ok (.getfield 85, 3) := by decide +kernel
theorem dX9_work_21 : decode cX9_work 21 = .ok (.iload_n 2, 1) := by decide +kernel
theorem dX9_work_22 : decode cX9_work 22 = .ok (.iaload, 1) := by decide +kernel
theorem dX9_work_23 : decode cX9_work 23 = .ok (.if_icmp .ge 253, 3) := by decide +kernel
theorem dX9_work_26 : decode cX9_work 26 = .ok (.aload_n 0, 1) := by decide +kernel
theorem dX9_work_27 : decode cX9_work 27 = .ok (.getfield 324, 3) := by decide +kernel
theorem dX9_work_30 : decode cX9_work 30 = .ok (.ifCond .le 246, 3) := by decide +kernel
theorem dX9_work_33 : decode cX9_work 33 = .ok (.aload_n 0, 1) := by decide +kernel
theorem dX9_work_34 : decode cX9_work 34 = .ok (.getfield 91, 3) := by decide +kernel
theorem dX9_work_37 : decode cX9_work 37 = .ok (.iload 5, 2) := by decide +kernel
theorem dX9_work_39 : decode cX9_work 39 = .ok (.iload 8, 2) := by decide +kernel
theorem dX9_work_41 : decode cX9_work 41 = .ok (.iadd, 1) := by decide +kernel
theorem dX9_work_42 : decode cX9_work 42 = .ok (.iaload, 1) := by decide +kernel
theorem dX9_work_43 : decode cX9_work 43 = .ok (.istore 9, 2) := by decide +kernel
theorem dX9_work_45 : decode cX9_work 45 = .ok (.iload 8, 2) := by decide +kernel
theorem dX9_work_47 : decode cX9_work 47 = .ok (.iconst 1, 1) := by decide +kernel
theorem dX9_work_48 : decode cX9_work 48 = .ok (.iadd, 1) := by decide +kernel
theorem dX9_work_49 : decode cX9_work 49 = .ok (.istore 10, 2) := by decide +kernel
theorem dX9_work_51 : decode cX9_work 51 = .ok (.iload 9, 2) := by decide +kernel
theorem dX9_work_53 : decode cX9_work 53 = .ok (.ifCond .ne 15, 3) := by decide +kernel
theorem dX9_work_56 : decode cX9_work 56 = .ok (.aload_n 0, 1) := by decide +kernel
theorem dX9_work_57 : decode cX9_work 57 = .ok (.getfield 94, 3) := by decide +kernel
theorem dX9_work_60 : decode cX9_work 60 = .ok (.iload 5, 2) := by decide +kernel
theorem dX9_work_62 : decode cX9_work 62 = .ok (.iload 8, 2) := by decide +kernel
theorem dX9_work_64 : decode cX9_work 64 = .ok (.iadd, 1) := by decide +kernel
theorem dX9_work_65 : decode cX9_work 65 = .ok (.iaload, 1) := by decide +kernel
theorem dX9_work_66 : decode cX9_work 66 = .ok (.istore 6, 2) := by decide +kernel
theorem dX9_work_68 : decode cX9_work 68 = .ok (.iload 9, 2) := by decide +kernel
theorem dX9_work_70 : decode cX9_work 70 = .ok (.iconst 1, 1) := by decide +kernel
theorem dX9_work_71 : decode cX9_work 71 = .ok (.if_icmp .ne 54, 3) := by decide +kernel
theorem dX9_work_74 : decode cX9_work 74 = .ok (.iconst 0, 1) := by decide +kernel
theorem dX9_work_75 : decode cX9_work 75 = .ok (.istore 11, 2) := by decide +kernel
theorem dX9_work_77 : decode cX9_work 77 = .ok (.iload 11, 2) := by decide +kernel
theorem dX9_work_79 : decode cX9_work 79 = .ok (.aload_n 0, 1) := by decide +kernel
theorem dX9_work_80 : decode cX9_work 80 = .ok (.getfield 94, 3) := by decide +kernel
theorem dX9_work_83 : decode cX9_work 83 = .ok (.iload 5, 2) := by decide +kernel
theorem dX9_work_85 : decode cX9_work 85 = .ok (.iload 8, 2) := by decide +kernel
theorem dX9_work_87 : decode cX9_work 87 = .ok (.iadd, 1) := by decide +kernel
theorem dX9_work_88 : decode cX9_work 88 = .ok (.iaload, 1) := by decide +kernel
theorem dX9_work_89 : decode cX9_work 89 = .ok (.if_icmp .ge 36, 3) := by decide +kernel
theorem dX9_work_92 : decode cX9_work 92 = .ok (.aload_n 0, 1) := by decide +kernel
theorem dX9_work_93 : decode cX9_work 93 = .ok (.getfield 324, 3) := by decide +kernel
theorem dX9_work_96 : decode cX9_work 96 = .ok (.ifCond .le 29, 3) := by decide +kernel
theorem dX9_work_99 : decode cX9_work 99 = .ok (.aload_n 0, 1) := by decide +kernel
theorem dX9_work_100 : decode cX9_work 100 = .ok (.iload_n 1, 1) := by decide +kernel
theorem dX9_work_101 : decode cX9_work 101 = .ok (.iload_n 3, 1) := by decide +kernel
theorem dX9_work_102 : decode cX9_work 102 = .ok (.iload 4, 2) := by decide +kernel
theorem dX9_work_104 : decode cX9_work 104 = .ok (.iload 6, 2) := by decide +kernel
theorem dX9_work_106 : decode cX9_work 106 = .ok (.invokevirtual 327, 3) := by decide +kernel
theorem dX9_work_109 : decode cX9_work 109 = .ok (.aload_n 0, 1) := by decide +kernel
theorem dX9_work_110 : decode cX9_work 110 = .ok (.dup, 1) := by decide +kernel
theorem dX9_work_111 : decode cX9_work 111 = .ok (.getfield 324, 3) := by decide +kernel
theorem dX9_work_114 : decode cX9_work 114 = .ok (.iconst 1, 1) := by decide +kernel
theorem dX9_work_115 : decode cX9_work 115 = .ok (.isub, 1) := by decide +kernel
theorem dX9_work_116 : decode cX9_work 116 = .ok (.putfield 324, 3) := by decide +kernel
theorem dX9_work_119 : decode cX9_work 119 = .ok (.iinc 11 1, 3) := by decide +kernel
theorem dX9_work_122 : decode cX9_work 122 = .ok (.goto (-45), 3) := by decide +kernel
theorem dX9_work_125 : decode cX9_work 125 = .ok (.iload 9, 2) := by decide +kernel
theorem dX9_work_127 : decode cX9_work 127 = .ok (.iconst 2, 1) := by decide +kernel
theorem dX9_work_128 : decode cX9_work 128 = .ok (.if_icmp .ne 21, 3) := by decide +kernel
theorem dX9_work_131 : decode cX9_work 131 = .ok (.aload_n 0, 1) := by decide +kernel
theorem dX9_work_132 : decode cX9_work 132 = .ok (.iload_n 1, 1) := by decide +kernel
theorem dX9_work_133 : decode cX9_work 133 = .ok (.iload_n 3, 1) := by decide +kernel
theorem dX9_work_134 : decode cX9_work 134 = .ok (.iload 4, 2) := by decide +kernel
theorem dX9_work_136 : decode cX9_work 136 = .ok (.invokevirtual 330, 3) := by decide +kernel
theorem dX9_work_139 : decode cX9_work 139 = .ok (.ifCond .ne 7, 3) := by decide +kernel
theorem dX9_work_142 : decode cX9_work 142 = .ok (.iconst 1, 1) := by decide +kernel
theorem dX9_work_143 : decode cX9_work 143 = .ok (.goto 4, 3) := by decide +kernel
theorem dX9_work_146 : decode cX9_work 146 = .ok (.iconst 0, 1) := by decide +kernel
theorem dX9_work_147 : decode cX9_work 147 = .ok (.istore 7, 2) := by decide +kernel
theorem dX9_work_149 : decode cX9_work 149 = .ok (.iload 9, 2) := by decide +kernel
theorem dX9_work_151 : decode cX9_work 151 = .ok (.iconst 3, 1) := by decide +kernel
theorem dX9_work_152 : decode cX9_work 152 = .ok (.if_icmp .ne 37, 3) := by decide +kernel
theorem dX9_work_155 : decode cX9_work 155 = .ok (.aload_n 0, 1) := by decide +kernel
theorem dX9_work_156 : decode cX9_work 156 = .ok (.getfield 127, 3) := by decide +kernel
theorem dX9_work_159 : decode cX9_work 159 = .ok (.iload 8, 2) := by decide +kernel
theorem dX9_work_161 : decode cX9_work 161 = .ok (.aload_n 0, 1) := by decide +kernel
theorem dX9_work_162 : decode cX9_work 162 = .ok (.getfield 94, 3) := by decide +kernel
theorem dX9_work_165 : decode cX9_work 165 = .ok (.iload 5, 2) := by decide +kernel
theorem dX9_work_167 : decode cX9_work 167 = .ok (.iload 8, 2) := by decide +kernel
theorem dX9_work_169 : decode cX9_work 169 = .ok (.iadd, 1) := by decide +kernel
theorem dX9_work_170 : decode cX9_work 170 = .ok (.iaload, 1) := by decide +kernel
theorem dX9_work_171 : decode cX9_work 171 = .ok (.iastore, 1) := by decide +kernel
theorem dX9_work_172 : decode cX9_work 172 = .ok (.iload 7, 2) := by decide +kernel
theorem dX9_work_174 : decode cX9_work 174 = .ok (.ifCond .eq 15, 3) := by decide +kernel
theorem dX9_work_177 : decode cX9_work 177 = .ok (.aload_n 0, 1) := by decide +kernel
theorem dX9_work_178 : decode cX9_work 178 = .ok (.getfield 97, 3) := by decide +kernel
theorem dX9_work_181 : decode cX9_work 181 = .ok (.iload 5, 2) := by decide +kernel
theorem dX9_work_183 : decode cX9_work 183 = .ok (.iload 8, 2) := by decide +kernel
theorem dX9_work_185 : decode cX9_work 185 = .ok (.iadd, 1) := by decide +kernel
theorem dX9_work_186 : decode cX9_work 186 = .ok (.iaload, 1) := by decide +kernel
theorem dX9_work_187 : decode cX9_work 187 = .ok (.istore 10, 2) := by decide +kernel
theorem dX9_work_189 : decode cX9_work 189 = .ok (.iload 9, 2) := by decide +kernel
theorem dX9_work_191 : decode cX9_work 191 = .ok (.iconst 4, 1) := by decide +kernel
theorem dX9_work_192 : decode cX9_work 192 = .ok (.if_icmp .ne 47, 3) := by decide +kernel
theorem dX9_work_195 : decode cX9_work 195 = .ok (.aload_n 0, 1) := by decide +kernel
theorem dX9_work_196 : decode cX9_work 196 = .ok (.getfield 97, 3) := by decide +kernel
theorem dX9_work_199 : decode cX9_work 199 = .ok (.iload 5, 2) := by decide +kernel
theorem dX9_work_201 : decode cX9_work 201 = .ok (.iload 8, 2) := by decide +kernel
theorem dX9_work_203 : decode cX9_work 203 = .ok (.iadd, 1) := by decide +kernel
theorem dX9_work_204 : decode cX9_work 204 = .ok (.iaload, 1) := by decide +kernel
theorem dX9_work_205 : decode cX9_work 205 = .ok (.istore 11, 2) := by decide +kernel
theorem dX9_work_207 : decode cX9_work 207 = .ok (.aload_n 0, 1) := by decide +kernel
theorem dX9_work_208 : decode cX9_work 208 = .ok (.getfield 127, 3) := by decide +kernel
theorem dX9_work_211 : decode cX9_work 211 = .ok (.iload 11, 2) := by decide +kernel
theorem dX9_work_213 : decode cX9_work 213 = .ok (.dup2, 1) := by decide +kernel
theorem dX9_work_214 : decode cX9_work 214 = .ok (.iaload, 1) := by decide +kernel
theorem dX9_work_215 : decode cX9_work 215 = .ok (.iconst 1, 1) := by decide +kernel
theorem dX9_work_216 : decode cX9_work 216 = .ok (.isub, 1) := by decide +kernel
theorem dX9_work_217 : decode cX9_work 217 = .ok (.iastore, 1) := by decide +kernel
theorem dX9_work_218 : decode cX9_work 218 = .ok (.aload_n 0, 1) := by decide +kernel
theorem dX9_work_219 : decode cX9_work 219 = .ok (.getfield 127, 3) := by decide +kernel
theorem dX9_work_222 : decode cX9_work 222 = .ok (.iload 11, 2) := by decide +kernel
theorem dX9_work_224 : decode cX9_work 224 = .ok (.iaload, 1) := by decide +kernel
theorem dX9_work_225 : decode cX9_work 225 = .ok (.ifCond .le 14, 3) := by decide +kernel
theorem dX9_work_228 : decode cX9_work 228 = .ok (.iload 7, 2) := by decide +kernel
theorem dX9_work_230 : decode cX9_work 230 = .ok (.ifCond .ne 9, 3) := by decide +kernel
theorem dX9_work_233 : decode cX9_work 233 = .ok (.iload 11, 2) := by decide +kernel
theorem dX9_work_235 : decode cX9_work 235 = .ok (.iconst 1, 1) := by decide +kernel
theorem dX9_work_236 : decode cX9_work 236 = .ok (.iadd, 1) := by decide +kernel
theorem dX9_work_237 : decode cX9_work 237 = .ok (.istore 10, 2) := by decide +kernel
theorem dX9_work_239 : decode cX9_work 239 = .ok (.iload 9, 2) := by decide +kernel
theorem dX9_work_241 : decode cX9_work 241 = .ok (.iconst 5, 1) := by decide +kernel
theorem dX9_work_242 : decode cX9_work 242 = .ok (.if_icmp .ne 8, 3) := by decide +kernel
theorem dX9_work_245 : decode cX9_work 245 = .ok (.iload 7, 2) := by decide +kernel
theorem dX9_work_247 : decode cX9_work 247 = .ok (.ifCond .eq 10, 3) := by decide +kernel
theorem dX9_work_250 : decode cX9_work 250 = .ok (.iload 9, 2) := by decide +kernel
theorem dX9_work_252 : decode cX9_work 252 = .ok (.bipush 6, 2) := by decide +kernel
theorem dX9_work_254 : decode cX9_work 254 = .ok (.if_icmp .ne 15, 3) := by decide +kernel
theorem dX9_work_257 : decode cX9_work 257 = .ok (.aload_n 0, 1) := by decide +kernel
theorem dX9_work_258 : decode cX9_work 258 = .ok (.getfield 97, 3) := by decide +kernel
theorem dX9_work_261 : decode cX9_work 261 = .ok (.iload 5, 2) := by decide +kernel
theorem dX9_work_263 : decode cX9_work 263 = .ok (.iload 8, 2) := by decide +kernel
theorem dX9_work_265 : decode cX9_work 265 = .ok (.iadd, 1) := by decide +kernel
theorem dX9_work_266 : decode cX9_work 266 = .ok (.iaload, 1) := by decide +kernel
theorem dX9_work_267 : decode cX9_work 267 = .ok (.istore 10, 2) := by decide +kernel
theorem dX9_work_269 : decode cX9_work 269 = .ok (.iload 10, 2) := by decide +kernel
theorem dX9_work_271 : decode cX9_work 271 = .ok (.istore 8, 2) := by decide +kernel
theorem dX9_work_273 : decode cX9_work 273 = .ok (.goto (-258), 3) := by decide +kernel
theorem dX9_work_276 : decode cX9_work 276 = .ok (.return_, 1) := by decide +kernel
theorem dX9_burn_0 : decode cX9_burn 0 = .ok (.iload 6, 2) := by decide +kernel
theorem dX9_burn_2 : decode cX9_burn 2 = .ok (.iconst 0, 1) := by decide +kernel
theorem dX9_burn_3 : decode cX9_burn 3 = .ok (.ldc 245, 2) := by decide +kernel
theorem dX9_burn_5 : decode cX9_burn 5 = .ok (.invokestatic 137, 3) := by decide +kernel
theorem dX9_burn_8 : decode cX9_burn 8 = .ok (.ifCond .eq 17, 3) := by decide +kernel
theorem dX9_burn_11 : decode cX9_burn 11 = .ok (.aload_n 0, 1) := by decide +kernel
theorem dX9_burn_12 : decode cX9_burn 12 = .ok (.iload_n 1, 1) := by decide +kernel
theorem dX9_burn_13 : decode cX9_burn 13 = .ok (.iload_n 2, 1) := by decide +kernel
theorem dX9_burn_14 : decode cX9_burn 14 = .ok (.iload_n 3, 1) := by decide +kernel
theorem dX9_burn_15 : decode cX9_burn 15 = .ok (.iload 4, 2) := by decide +kernel
theorem dX9_burn_17 : decode cX9_burn 17 = .ok (.iload 5, 2) := by decide +kernel
theorem dX9_burn_19 : decode cX9_burn 19 = .ok (.invokevirtual 333, 3) := by decide +kernel
theorem dX9_burn_22 : decode cX9_burn 22 = .ok (.ifCond .eq 5, 3) := by decide +kernel
theorem dX9_burn_25 : decode cX9_burn 25 = .ok (.iconst (-1), 1) := by decide +kernel
theorem dX9_burn_26 : decode cX9_burn 26 = .ok (.ireturn, 1) := by decide +kernel
theorem dX9_burn_27 : decode cX9_burn 27 = .ok (.aload_n 0, 1) := by decide +kernel
theorem dX9_burn_28 : decode cX9_burn 28 = .ok (.iload 6, 2) := by decide +kernel
theorem dX9_burn_30 : decode cX9_burn 30 = .ok (.putfield 324, 3) := by decide +kernel
theorem dX9_burn_33 : decode cX9_burn 33 = .ok (.iconst 0, 1) := by decide +kernel
theorem dX9_burn_34 : decode cX9_burn 34 = .ok (.istore 7, 2) := by decide +kernel
theorem dX9_burn_36 : decode cX9_burn 36 = .ok (.iload 7, 2) := by decide +kernel
theorem dX9_burn_38 : decode cX9_burn 38 = .ok (.aload_n 0, 1) := by decide +kernel
theorem dX9_burn_39 : decode cX9_burn 39 = .ok (.iload_n 1, 1) := by decide +kernel
theorem dX9_burn_40 : decode cX9_burn 40 = .ok (.iload 4, 2) := by decide +kernel
theorem dX9_burn_42 : decode cX9_burn 42 = .ok (.iload 5, 2) := by decide +kernel
theorem dX9_burn_44 : decode cX9_burn 44 = .ok (.invokevirtual 314, 3) := by decide +kernel
theorem dX9_burn_47 : decode cX9_burn 47 = .ok (.if_icmp .ge 55, 3) := by decide +kernel
theorem dX9_burn_50 : decode cX9_burn 50 = .ok (.aload_n 0, 1) := by decide +kernel
theorem dX9_burn_51 : decode cX9_burn 51 = .ok (.iload_n 1, 1) := by decide +kernel
theorem dX9_burn_52 : decode cX9_burn 52 = .ok (.iload 7, 2) := by decide +kernel
theorem dX9_burn_54 : decode cX9_burn 54 = .ok (.invokevirtual 210, 3) := by decide +kernel
theorem dX9_burn_57 : decode cX9_burn 57 = .ok (.istore 8, 2) := by decide +kernel
theorem dX9_burn_59 : decode cX9_burn 59 = .ok (.aload_n 0, 1) := by decide +kernel
theorem dX9_burn_60 : decode cX9_burn 60 = .ok (.getfield 7, 3) := by decide +kernel
theorem dX9_burn_63 : decode cX9_burn 63 = .ok (.iload 4, 2) := by decide +kernel
theorem dX9_burn_65 : decode cX9_burn 65 = .ok (.iload 5, 2) := by decide +kernel
theorem dX9_burn_67 : decode cX9_burn 67 = .ok (.iload 7, 2) := by decide +kernel
theorem dX9_burn_69 : decode cX9_burn 69 = .ok (.imul, 1) := by decide +kernel
theorem dX9_burn_70 : decode cX9_burn 70 = .ok (.iadd, 1) := by decide +kernel
theorem dX9_burn_71 : decode cX9_burn 71 = .ok (.iaload, 1) := by decide +kernel
theorem dX9_burn_72 : decode cX9_burn 72 = .ok (.istore 9, 2) := by decide +kernel
theorem dX9_burn_74 : decode cX9_burn 74 = .ok (.aload_n 0, 1) := by decide +kernel
theorem dX9_burn_75 : decode cX9_burn 75 = .ok (.iload_n 1, 1) := by decide +kernel
theorem dX9_burn_76 : decode cX9_burn 76 = .ok (.iload 8, 2) := by decide +kernel
theorem dX9_burn_78 : decode cX9_burn 78 = .ok (.iload 9, 2) := by decide +kernel
theorem dX9_burn_80 : decode cX9_burn 80 = .ok (.invokevirtual 330, 3) := by decide +kernel
theorem dX9_burn_83 : decode cX9_burn 83 = .ok (.ifCond .eq 13, 3) := by decide +kernel
theorem dX9_burn_86 : decode cX9_burn 86 = .ok (.aload_n 0, 1) := by decide +kernel
theorem dX9_burn_87 : decode cX9_burn 87 = .ok (.iload_n 1, 1) := by decide +kernel
theorem dX9_burn_88 : decode cX9_burn 88 = .ok (.iload_n 2, 1) := by decide +kernel
theorem dX9_burn_89 : decode cX9_burn 89 = .ok (.iload 8, 2) := by decide +kernel
theorem dX9_burn_91 : decode cX9_burn 91 = .ok (.iload 9, 2) := by decide +kernel
theorem dX9_burn_93 : decode cX9_burn 93 = .ok (.invokevirtual 336, 3) := by decide +kernel
theorem dX9_burn_96 : decode cX9_burn 96 = .ok (.iinc 7 1, 3) := by decide +kernel
theorem dX9_burn_99 : decode cX9_burn 99 = .ok (.goto (-63), 3) := by decide +kernel
theorem dX9_burn_102 : decode cX9_burn 102 = .ok (.iload 6, 2) := by decide +kernel
theorem dX9_burn_104 : decode cX9_burn 104 = .ok (.aload_n 0, 1) := by decide +kernel
theorem dX9_burn_105 : decode cX9_burn 105 = .ok (.getfield 324, 3) := by decide +kernel
theorem dX9_burn_108 : decode cX9_burn 108 = .ok (.isub, 1) := by decide +kernel
theorem dX9_burn_109 : decode cX9_burn 109 = .ok (.ireturn, 1) := by decide +kernel
theorem dX9_wrong_0 : decode cX9_wrong 0 = .ok (.aload_n 0, 1) := by decide +kernel
theorem dX9_wrong_1 : decode cX9_wrong 1 = .ok (.iload_n 1, 1) := by decide +kernel
theorem dX9_wrong_2 : decode cX9_wrong 2 = .ok (.invokevirtual 199, 3) := by decide +kernel
theorem dX9_wrong_5 : decode cX9_wrong 5 = .ok (.ifCond .eq 11, 3) := by decide +kernel
theorem dX9_wrong_8 : decode cX9_wrong 8 = .ok (.iload_n 2, 1) := by decide +kernel
theorem dX9_wrong_9 : decode cX9_wrong 9 = .ok (.iload_n 3, 1) := by decide +kernel
theorem dX9_wrong_10 : decode cX9_wrong 10 = .ok (.invokestatic 317, 3) := by decide +kernel
theorem dX9_wrong_13 : decode cX9_wrong 13 = .ok (.ifCond .ne 5, 3) := by decide +kernel
theorem dX9_wrong_16 : decode cX9_wrong 16 = .ok (.iconst (-1), 1) := by decide +kernel
theorem dX9_wrong_17 : decode cX9_wrong 17 = .ok (.ireturn, 1) := by decide +kernel
theorem dX9_wrong_18 : decode cX9_wrong 18 = .ok (.iconst 0, 1) := by decide +kernel
theorem dX9_wrong_19 : decode cX9_wrong 19 = .ok (.istore 4, 2) := by decide +kernel
theorem dX9_wrong_21 : decode cX9_wrong 21 = .ok (.iconst 0, 1) := by decide +kernel
theorem dX9_wrong_22 : decode cX9_wrong 22 = .ok (.istore 5, 2) := by decide +kernel
theorem dX9_wrong_24 : decode cX9_wrong 24 = .ok (.iload 5, 2) := by decide +kernel
theorem dX9_wrong_26 : decode cX9_wrong 26 = .ok (.aload_n 0, 1) := by decide +kernel
theorem dX9_wrong_27 : decode cX9_wrong 27 = .ok (.iload_n 1, 1) := by decide +kernel
theorem dX9_wrong_28 : decode cX9_wrong 28 = .ok (.iload_n 2, 1) := by decide +kernel
theorem dX9_wrong_29 : decode cX9_wrong 29 = .ok (.iload_n 3, 1) := by decide +kernel
theorem dX9_wrong_30 : decode cX9_wrong 30 = .ok (.invokevirtual 314, 3) := by decide +kernel
theorem dX9_wrong_33 : decode cX9_wrong 33 = .ok (.if_icmp .ge 45, 3) := by decide +kernel
theorem dX9_wrong_36 : decode cX9_wrong 36 = .ok (.iload 4, 2) := by decide +kernel
theorem dX9_wrong_38 : decode cX9_wrong 38 = .ok (.aload_n 0, 1) := by decide +kernel
theorem dX9_wrong_39 : decode cX9_wrong 39 = .ok (.iload_n 1, 1) := by decide +kernel
theorem dX9_wrong_40 : decode cX9_wrong 40 = .ok (.aload_n 0, 1) := by decide +kernel
theorem dX9_wrong_41 : decode cX9_wrong 41 = .ok (.iload_n 1, 1) := by decide +kernel
theorem dX9_wrong_42 : decode cX9_wrong 42 = .ok (.iload 5, 2) := by decide +kernel
theorem dX9_wrong_44 : decode cX9_wrong 44 = .ok (.invokevirtual 210, 3) := by decide +kernel
theorem dX9_wrong_47 : decode cX9_wrong 47 = .ok (.aload_n 0, 1) := by decide +kernel
theorem dX9_wrong_48 : decode cX9_wrong 48 = .ok (.getfield 7, 3) := by decide +kernel
theorem dX9_wrong_51 : decode cX9_wrong 51 = .ok (.iload_n 2, 1) := by decide +kernel
theorem dX9_wrong_52 : decode cX9_wrong 52 = .ok (.iload_n 3, 1) := by decide +kernel
theorem dX9_wrong_53 : decode cX9_wrong 53 = .ok (.iload 5, 2) := by decide +kernel
theorem dX9_wrong_55 : decode cX9_wrong 55 = .ok (.imul, 1) := by decide +kernel
theorem dX9_wrong_56 : decode cX9_wrong 56 = .ok (.iadd, 1) := by decide +kernel
theorem dX9_wrong_57 : decode cX9_wrong 57 = .ok (.iaload, 1) := by decide +kernel
theorem dX9_wrong_58 : decode cX9_wrong 58 = .ok (.invokevirtual 330, 3) := by decide +kernel
theorem dX9_wrong_61 : decode cX9_wrong 61 = .ok (.ifCond .eq 7, 3) := by decide +kernel
theorem dX9_wrong_64 : decode cX9_wrong 64 = .ok (.iconst 1, 1) := by decide +kernel
theorem dX9_wrong_65 : decode cX9_wrong 65 = .ok (.goto 4, 3) := by decide +kernel
theorem dX9_wrong_68 : decode cX9_wrong 68 = .ok (.iconst 0, 1) := by decide +kernel
theorem dX9_wrong_69 : decode cX9_wrong 69 = .ok (.iadd, 1) := by decide +kernel
theorem dX9_wrong_70 : decode cX9_wrong 70 = .ok (.istore 4, 2) := by decide +kernel
theorem dX9_wrong_72 : decode cX9_wrong 72 = .ok (.iinc 5 1, 3) := by decide +kernel
theorem dX9_wrong_75 : decode cX9_wrong 75 = .ok (.goto (-51), 3) := by decide +kernel
theorem dX9_wrong_78 : decode cX9_wrong 78 = .ok (.iload 4, 2) := by decide +kernel
theorem dX9_wrong_80 : decode cX9_wrong 80 = .ok (.ireturn, 1) := by decide +kernel
theorem dX9_read_0 : decode cX9_read 0 = .ok (.aload_n 0, 1) := by decide +kernel
theorem dX9_read_1 : decode cX9_read 1 = .ok (.iload_n 1, 1) := by decide +kernel
theorem dX9_read_2 : decode cX9_read 2 = .ok (.invokevirtual 199, 3) := by decide +kernel
theorem dX9_read_5 : decode cX9_read 5 = .ok (.ifCond .eq 12, 3) := by decide +kernel
theorem dX9_read_8 : decode cX9_read 8 = .ok (.iload_n 3, 1) := by decide +kernel
theorem dX9_read_9 : decode cX9_read 9 = .ok (.iload 4, 2) := by decide +kernel
theorem dX9_read_11 : decode cX9_read 11 = .ok (.invokestatic 317, 3) := by decide +kernel
theorem dX9_read_14 : decode cX9_read 14 = .ok (.ifCond .ne 5, 3) := by decide +kernel
theorem dX9_read_17 : decode cX9_read 17 = .ok (.iconst (-1), 1) := by decide +kernel
theorem dX9_read_18 : decode cX9_read 18 = .ok (.ireturn, 1) := by decide +kernel
theorem dX9_read_19 : decode cX9_read 19 = .ok (.aload_n 0, 1) := by decide +kernel
theorem dX9_read_20 : decode cX9_read 20 = .ok (.iload_n 1, 1) := by decide +kernel
theorem dX9_read_21 : decode cX9_read 21 = .ok (.iload_n 3, 1) := by decide +kernel
theorem dX9_read_22 : decode cX9_read 22 = .ok (.iload 4, 2) := by decide +kernel
theorem dX9_read_24 : decode cX9_read 24 = .ok (.invokevirtual 314, 3) := by decide +kernel
theorem dX9_read_27 : decode cX9_read 27 = .ok (.istore 5, 2) := by decide +kernel
theorem dX9_read_29 : decode cX9_read 29 = .ok (.iconst 0, 1) := by decide +kernel
theorem dX9_read_30 : decode cX9_read 30 = .ok (.istore 6, 2) := by decide +kernel
theorem dX9_read_32 : decode cX9_read 32 = .ok (.iload 6, 2) := by decide +kernel
theorem dX9_read_34 : decode cX9_read 34 = .ok (.iload 5, 2) := by decide +kernel
theorem dX9_read_36 : decode cX9_read 36 = .ok (.if_icmp .ge 56, 3) := by decide +kernel
theorem dX9_read_39 : decode cX9_read 39 = .ok (.bipush 64, 2) := by decide +kernel
theorem dX9_read_41 : decode cX9_read 41 = .ok (.iload_n 1, 1) := by decide +kernel
theorem dX9_read_42 : decode cX9_read 42 = .ok (.imul, 1) := by decide +kernel
theorem dX9_read_43 : decode cX9_read 43 = .ok (.aload_n 0, 1) := by decide +kernel
theorem dX9_read_44 : decode cX9_read 44 = .ok (.iload_n 1, 1) := by decide +kernel
theorem dX9_read_45 : decode cX9_read 45 = .ok (.iload 6, 2) := by decide +kernel
theorem dX9_read_47 : decode cX9_read 47 = .ok (.invokevirtual 210, 3) := by decide +kernel
theorem dX9_read_50 : decode cX9_read 50 = .ok (.iadd, 1) := by decide +kernel
theorem dX9_read_51 : decode cX9_read 51 = .ok (.istore 7, 2) := by decide +kernel
theorem dX9_read_53 : decode cX9_read 53 = .ok (.aload_n 0, 1) := by decide +kernel
theorem dX9_read_54 : decode cX9_read 54 = .ok (.getfield 7, 3) := by decide +kernel
theorem dX9_read_57 : decode cX9_read 57 = .ok (.iload_n 3, 1) := by decide +kernel
theorem dX9_read_58 : decode cX9_read 58 = .ok (.iload 4, 2) := by decide +kernel
theorem dX9_read_60 : decode cX9_read 60 = .ok (.iload 6, 2) := by decide +kernel
theorem dX9_read_62 : decode cX9_read 62 = .ok (.imul, 1) := by decide +kernel
theorem dX9_read_63 : decode cX9_read 63 = .ok (.iadd, 1) := by decide +kernel
theorem dX9_read_64 : decode cX9_read 64 = .ok (.iload_n 2, 1) := by decide +kernel
theorem dX9_read_65 : decode cX9_read 65 = .ok (.ifCond .eq 13, 3) := by decide +kernel
theorem dX9_read_68 : decode cX9_read 68 = .ok (.aload_n 0, 1) := by decide +kernel
theorem dX9_read_69 : decode cX9_read 69 = .ok (.getfield 67, 3) := by decide +kernel
theorem dX9_read_72 : decode cX9_read 72 = .ok (.iload 7, 2) := by decide +kernel
theorem dX9_read_74 : decode cX9_read 74 = .ok (.iaload, 1) := by decide +kernel
theorem dX9_read_75 : decode cX9_read 75 = .ok (.goto 10, 3) := by decide +kernel
theorem dX9_read_78 : decode cX9_read 78 = .ok (.aload_n 0, 1) := by decide +kernel
theorem dX9_read_79 : decode cX9_read 79 = .ok (.getfield 64, 3) := by decide +kernel
theorem dX9_read_82 : decode cX9_read 82 = .ok (.iload 7, 2) := by decide +kernel
theorem dX9_read_84 : decode cX9_read 84 = .ok (.iaload, 1) := by decide +kernel
theorem dX9_read_85 : decode cX9_read 85 = .ok (.iastore, 1) := by decide +kernel
theorem dX9_read_86 : decode cX9_read 86 = .ok (.iinc 6 1, 3) := by decide +kernel
theorem dX9_read_89 : decode cX9_read 89 = .ok (.goto (-57), 3) := by decide +kernel
theorem dX9_read_92 : decode cX9_read 92 = .ok (.iload 5, 2) := by decide +kernel
theorem dX9_read_94 : decode cX9_read 94 = .ok (.ireturn, 1) := by decide +kernel
theorem dX9_about_0 : decode cX9_about 0 = .ok (.iload_n 1, 1) := by decide +kernel
theorem dX9_about_1 : decode cX9_about 1 = .ok (.ifCond .ne 10, 3) := by decide +kernel
theorem dX9_about_4 : decode cX9_about 4 = .ok (.aload_n 0, 1) := by decide +kernel
theorem dX9_about_5 : decode cX9_about 5 = .ok (.getfield 196, 3) := by decide +kernel
theorem dX9_about_8 : decode cX9_about 8 = .ok (.goto 45, 3) := by decide +kernel
theorem dX9_about_11 : decode cX9_about 11 = .ok (.iload_n 1, 1) := by decide +kernel
theorem dX9_about_12 : decode cX9_about 12 = .ok (.iconst 1, 1) := by decide +kernel
theorem dX9_about_13 : decode cX9_about 13 = .ok (.if_icmp .ne 10, 3) := by decide +kernel
theorem dX9_about_16 : decode cX9_about 16 = .ok (.aload_n 0, 1) := by decide +kernel
theorem dX9_about_17 : decode cX9_about 17 = .ok (.getfield 130, 3) := by decide +kernel
theorem dX9_about_20 : decode cX9_about 20 = .ok (.goto 33, 3) := by decide +kernel
theorem dX9_about_23 : decode cX9_about 23 = .ok (.iload_n 1, 1) := by decide +kernel
theorem dX9_about_24 : decode cX9_about 24 = .ok (.iconst 2, 1) := by decide +kernel
theorem dX9_about_25 : decode cX9_about 25 = .ok (.if_icmp .ne 27, 3) := by decide +kernel
theorem dX9_about_28 : decode cX9_about 28 = .ok (.aload_n 0, 1) := by decide +kernel
theorem dX9_about_29 : decode cX9_about 29 = .ok (.getfield 179, 3) := by decide +kernel
theorem dX9_about_32 : decode cX9_about 32 = .ok (.ldc2_w 216, 3) := by decide +kernel
theorem dX9_about_35 : decode cX9_about 35 = .ok (.lcmp, 1) := by decide +kernel
theorem dX9_about_36 : decode cX9_about 36 = .ok (.ifCond .le 8, 3) := by decide +kernel
theorem dX9_about_39 : decode cX9_about 39 = .ok (.ldc 218, 2) := by decide +kernel
theorem dX9_about_41 : decode cX9_about 41 = .ok (.goto 12, 3) := by decide +kernel
theorem dX9_about_44 : decode cX9_about 44 = .ok (.aload_n 0, 1) := by decide +kernel
theorem dX9_about_45 : decode cX9_about 45 = .ok (.getfield 179, 3) := by decide +kernel
theorem dX9_about_48 : decode cX9_about 48 = .ok (.l2i, 1) := by decide +kernel
theorem dX9_about_49 : decode cX9_about 49 = .ok (.goto 4, 3) := by decide +kernel
theorem dX9_about_52 : decode cX9_about 52 = .ok (.iconst (-1), 1) := by decide +kernel
theorem dX9_about_53 : decode cX9_about 53 = .ok (.ireturn, 1) := by decide +kernel
end
section
theorem dL_law_0 : decode cL_law 0 = .ok (.new 7, 3) := by decide +kernel
theorem dL_law_3 : decode cL_law 3 = .ok (.dup, 1) := by decide +kernel
theorem dL_law_4 : decode cL_law 4 = .ok (.invokespecial 9, 3) := by decide +kernel
theorem dL_law_7 : decode cL_law 7 = .ok (.astore_n 1, 1) := by decide +kernel
theorem dL_law_8 : decode cL_law 8 = .ok (.new 10, 3) := by decide +kernel
theorem dL_law_11 : decode cL_law 11 = .ok (.dup, 1) := by decide +kernel
theorem dL_law_12 : decode cL_law 12 = .ok (.invokespecial 12, 3) := by decide +kernel
theorem dL_law_15 : decode cL_law 15 = .ok (.astore_n 2, 1) := by decide +kernel
theorem dL_law_16 : decode cL_law 16 = .ok (.iconst 0, 1) := by decide +kernel
theorem dL_law_17 : decode cL_law 17 = .ok (.istore_n 3, 1) := by decide +kernel
theorem dL_law_18 : decode cL_law 18 = .ok (.iload_n 3, 1) := by decide +kernel
theorem dL_law_19 : decode cL_law 19 = .ok (.aload_n 0, 1) := by decide +kernel
theorem dL_law_20 : decode cL_law 20 = .ok (.arraylength, 1) := by decide +kernel
theorem dL_law_21 : decode cL_law 21 = .ok (.bipush 9, 2) := by decide +kernel
theorem dL_law_23 : decode cL_law 23 = .ok (.isub, 1) := by decide +kernel
theorem dL_law_24 : decode cL_law 24 = .ok (.if_icmp .gt 1019, 3) := by decide +kernel
theorem dL_law_27 : decode cL_law 27 = .ok (.aload_n 0, 1) := by decide +kernel
theorem dL_law_28 : decode cL_law 28 = .ok (.iload_n 3, 1) := by decide +kernel
theorem dL_law_29 : decode cL_law 29 = .ok (.iaload, 1) := by decide +kernel
theorem dL_law_30 : decode cL_law 30 = .ok (.bipush 31, 2) := by decide +kernel
theorem dL_law_32 : decode cL_law 32 = .ok (.iand, 1) := by decide +kernel
theorem dL_law_33 : decode cL_law 33 = .ok (.tableswitch 1004 0 20 #[99, 162, 185, 208, 231, 274, 297, 320, 343, 458, 501, 560, 619, 642, 675, 698, 731, 794, 869, 912, 981], 99) := by decide +kernel
theorem dL_law_132 : decode cL_law 132 = .ok (.aload_n 1, 1) := by decide +kernel
theorem dL_law_133 : decode cL_law 133 = .ok (.aload_n 0, 1) := by decide +kernel
theorem dL_law_134 : decode cL_law 134 = .ok (.iload_n 3, 1) := by decide +kernel
theorem dL_law_135 : decode cL_law 135 = .ok (.iconst 1, 1) := by decide +kernel
theorem dL_law_136 : decode cL_law 136 = .ok (.iadd, 1) := by decide +kernel
theorem dL_law_137 : decode cL_law 137 = .ok (.iaload, 1) := by decide +kernel
theorem dL_law_138 : decode cL_law 138 = .ok (.aload_n 0, 1) := by decide +kernel
theorem dL_law_139 : decode cL_law 139 = .ok (.iload_n 3, 1) := by decide +kernel
theorem dL_law_140 : decode cL_law 140 = .ok (.iconst 2, 1) := by decide +kernel
theorem dL_law_141 : decode cL_law 141 = .ok (.iadd, 1) := by decide +kernel
theorem dL_law_142 : decode cL_law 142 = .ok (.iaload, 1) := by decide +kernel
theorem dL_law_143 : decode cL_law 143 = .ok (.aload_n 0, 1) := by decide +kernel
theorem dL_law_144 : decode cL_law 144 = .ok (.iload_n 3, 1) := by decide +kernel
theorem dL_law_145 : decode cL_law 145 = .ok (.iconst 3, 1) := by decide +kernel
theorem dL_law_146 : decode cL_law 146 = .ok (.iadd, 1) := by decide +kernel
theorem dL_law_147 : decode cL_law 147 = .ok (.iaload, 1) := by decide +kernel
theorem dL_law_148 : decode cL_law 148 = .ok (.aload_n 0, 1) := by decide +kernel
theorem dL_law_149 : decode cL_law 149 = .ok (.iload_n 3, 1) := by decide +kernel
theorem dL_law_150 : decode cL_law 150 = .ok (.iconst 4, 1) := by decide +kernel
theorem dL_law_151 : decode cL_law 151 = .ok (.iadd, 1) := by decide +kernel
theorem dL_law_152 : decode cL_law 152 = .ok (.iaload, 1) := by decide +kernel
theorem dL_law_153 : decode cL_law 153 = .ok (.aload_n 0, 1) := by decide +kernel
theorem dL_law_154 : decode cL_law 154 = .ok (.iload_n 3, 1) := by decide +kernel
theorem dL_law_155 : decode cL_law 155 = .ok (.iconst 5, 1) := by decide +kernel
theorem dL_law_156 : decode cL_law 156 = .ok (.iadd, 1) := by decide +kernel
theorem dL_law_157 : decode cL_law 157 = .ok (.iaload, 1) := by decide +kernel
theorem dL_law_158 : decode cL_law 158 = .ok (.invokevirtual 13, 3) := by decide +kernel
theorem dL_law_161 : decode cL_law 161 = .ok (.aload_n 2, 1) := by decide +kernel
theorem dL_law_162 : decode cL_law 162 = .ok (.aload_n 0, 1) := by decide +kernel
theorem dL_law_163 : decode cL_law 163 = .ok (.iload_n 3, 1) := by decide +kernel
theorem dL_law_164 : decode cL_law 164 = .ok (.iconst 1, 1) := by decide +kernel
theorem dL_law_165 : decode cL_law 165 = .ok (.iadd, 1) := by decide +kernel
theorem dL_law_166 : decode cL_law 166 = .ok (.iaload, 1) := by decide +kernel
theorem dL_law_167 : decode cL_law 167 = .ok (.aload_n 0, 1) := by decide +kernel
theorem dL_law_168 : decode cL_law 168 = .ok (.iload_n 3, 1) := by decide +kernel
theorem dL_law_169 : decode cL_law 169 = .ok (.iconst 2, 1) := by decide +kernel
theorem dL_law_170 : decode cL_law 170 = .ok (.iadd, 1) := by decide +kernel
theorem dL_law_171 : decode cL_law 171 = .ok (.iaload, 1) := by decide +kernel
theorem dL_law_172 : decode cL_law 172 = .ok (.aload_n 0, 1) := by decide +kernel
theorem dL_law_173 : decode cL_law 173 = .ok (.iload_n 3, 1) := by decide +kernel
theorem dL_law_174 : decode cL_law 174 = .ok (.iconst 3, 1) := by decide +kernel
theorem dL_law_175 : decode cL_law 175 = .ok (.iadd, 1) := by decide +kernel
theorem dL_law_176 : decode cL_law 176 = .ok (.iaload, 1) := by decide +kernel
theorem dL_law_177 : decode cL_law 177 = .ok (.aload_n 0, 1) := by decide +kernel
theorem dL_law_178 : decode cL_law 178 = .ok (.iload_n 3, 1) := by decide +kernel
theorem dL_law_179 : decode cL_law 179 = .ok (.iconst 4, 1) := by decide +kernel
theorem dL_law_180 : decode cL_law 180 = .ok (.iadd, 1) := by decide +kernel
theorem dL_law_181 : decode cL_law 181 = .ok (.iaload, 1) := by decide +kernel
theorem dL_law_182 : decode cL_law 182 = .ok (.aload_n 0, 1) := by decide +kernel
theorem dL_law_183 : decode cL_law 183 = .ok (.iload_n 3, 1) := by decide +kernel
theorem dL_law_184 : decode cL_law 184 = .ok (.iconst 5, 1) := by decide +kernel
theorem dL_law_185 : decode cL_law 185 = .ok (.iadd, 1) := by decide +kernel
theorem dL_law_186 : decode cL_law 186 = .ok (.iaload, 1) := by decide +kernel
theorem dL_law_187 : decode cL_law 187 = .ok (.invokevirtual 17, 3) := by decide +kernel
theorem dL_law_190 : decode cL_law 190 = .ok (.if_icmp .eq 847, 3) := by decide +kernel
theorem dL_law_193 : decode cL_law 193 = .ok (.iconst 0, 1) := by decide +kernel
theorem dL_law_194 : decode cL_law 194 = .ok (.ireturn, 1) := by decide +kernel
theorem dL_law_195 : decode cL_law 195 = .ok (.aload_n 1, 1) := by decide +kernel
theorem dL_law_196 : decode cL_law 196 = .ok (.aload_n 0, 1) := by decide +kernel
theorem dL_law_197 : decode cL_law 197 = .ok (.iload_n 3, 1) := by decide +kernel
theorem dL_law_198 : decode cL_law 198 = .ok (.iconst 1, 1) := by decide +kernel
theorem dL_law_199 : decode cL_law 199 = .ok (.iadd, 1) := by decide +kernel
theorem dL_law_200 : decode cL_law 200 = .ok (.iaload, 1) := by decide +kernel
theorem dL_law_201 : decode cL_law 201 = .ok (.invokevirtual 18, 3) := by decide +kernel
theorem dL_law_204 : decode cL_law 204 = .ok (.aload_n 2, 1) := by decide +kernel
theorem dL_law_205 : decode cL_law 205 = .ok (.aload_n 0, 1) := by decide +kernel
theorem dL_law_206 : decode cL_law 206 = .ok (.iload_n 3, 1) := by decide +kernel
theorem dL_law_207 : decode cL_law 207 = .ok (.iconst 1, 1) := by decide +kernel
theorem dL_law_208 : decode cL_law 208 = .ok (.iadd, 1) := by decide +kernel
theorem dL_law_209 : decode cL_law 209 = .ok (.iaload, 1) := by decide +kernel
theorem dL_law_210 : decode cL_law 210 = .ok (.invokevirtual 22, 3) := by decide +kernel
theorem dL_law_213 : decode cL_law 213 = .ok (.if_icmp .eq 824, 3) := by decide +kernel
theorem dL_law_216 : decode cL_law 216 = .ok (.iconst 0, 1) := by decide +kernel
theorem dL_law_217 : decode cL_law 217 = .ok (.ireturn, 1) := by decide +kernel
theorem dL_law_218 : decode cL_law 218 = .ok (.aload_n 1, 1) := by decide +kernel
theorem dL_law_219 : decode cL_law 219 = .ok (.aload_n 0, 1) := by decide +kernel
theorem dL_law_220 : decode cL_law 220 = .ok (.iload_n 3, 1) := by decide +kernel
theorem dL_law_221 : decode cL_law 221 = .ok (.iconst 1, 1) := by decide +kernel
theorem dL_law_222 : decode cL_law 222 = .ok (.iadd, 1) := by decide +kernel
theorem dL_law_223 : decode cL_law 223 = .ok (.iaload, 1) := by decide +kernel
theorem dL_law_224 : decode cL_law 224 = .ok (.invokevirtual 23, 3) := by decide +kernel
theorem dL_law_227 : decode cL_law 227 = .ok (.aload_n 2, 1) := by decide +kernel
theorem dL_law_228 : decode cL_law 228 = .ok (.aload_n 0, 1) := by decide +kernel
theorem dL_law_229 : decode cL_law 229 = .ok (.iload_n 3, 1) := by decide +kernel
theorem dL_law_230 : decode cL_law 230 = .ok (.iconst 1, 1) := by decide +kernel
theorem dL_law_231 : decode cL_law 231 = .ok (.iadd, 1) := by decide +kernel
theorem dL_law_232 : decode cL_law 232 = .ok (.iaload, 1) := by decide +kernel
theorem dL_law_233 : decode cL_law 233 = .ok (.invokevirtual 26, 3) := by decide +kernel
theorem dL_law_236 : decode cL_law 236 = .ok (.if_icmp .eq 801, 3) := by decide +kernel
theorem dL_law_239 : decode cL_law 239 = .ok (.iconst 0, 1) := by decide +kernel
theorem dL_law_240 : decode cL_law 240 = .ok (.ireturn, 1) := by decide +kernel
theorem dL_law_241 : decode cL_law 241 = .ok (.aload_n 1, 1) := by decide +kernel
theorem dL_law_242 : decode cL_law 242 = .ok (.aload_n 0, 1) := by decide +kernel
theorem dL_law_243 : decode cL_law 243 = .ok (.iload_n 3, 1) := by decide +kernel
theorem dL_law_244 : decode cL_law 244 = .ok (.iconst 1, 1) := by decide +kernel
theorem dL_law_245 : decode cL_law 245 = .ok (.iadd, 1) := by decide +kernel
theorem dL_law_246 : decode cL_law 246 = .ok (.iaload, 1) := by decide +kernel
theorem dL_law_247 : decode cL_law 247 = .ok (.invokevirtual 27, 3) := by decide +kernel
theorem dL_law_250 : decode cL_law 250 = .ok (.aload_n 2, 1) := by decide +kernel
theorem dL_law_251 : decode cL_law 251 = .ok (.aload_n 0, 1) := by decide +kernel
theorem dL_law_252 : decode cL_law 252 = .ok (.iload_n 3, 1) := by decide +kernel
theorem dL_law_253 : decode cL_law 253 = .ok (.iconst 1, 1) := by decide +kernel
theorem dL_law_254 : decode cL_law 254 = .ok (.iadd, 1) := by decide +kernel
theorem dL_law_255 : decode cL_law 255 = .ok (.iaload, 1) := by decide +kernel
theorem dL_law_256 : decode cL_law 256 = .ok (.invokevirtual 30, 3) := by decide +kernel
theorem dL_law_259 : decode cL_law 259 = .ok (.if_icmp .eq 778, 3) := by decide +kernel
theorem dL_law_262 : decode cL_law 262 = .ok (.iconst 0, 1) := by decide +kernel
theorem dL_law_263 : decode cL_law 263 = .ok (.ireturn, 1) := by decide +kernel
theorem dL_law_264 : decode cL_law 264 = .ok (.aload_n 1, 1) := by decide +kernel
theorem dL_law_265 : decode cL_law 265 = .ok (.aload_n 0, 1) := by decide +kernel
theorem dL_law_266 : decode cL_law 266 = .ok (.iload_n 3, 1) := by decide +kernel
theorem dL_law_267 : decode cL_law 267 = .ok (.iconst 1, 1) := by decide +kernel
theorem dL_law_268 : decode cL_law 268 = .ok (.iadd, 1) := by decide +kernel
theorem dL_law_269 : decode cL_law 269 = .ok (.iaload, 1) := by decide +kernel
theorem dL_law_270 : decode cL_law 270 = .ok (.aload_n 0, 1) := by decide +kernel
theorem dL_law_271 : decode cL_law 271 = .ok (.iload_n 3, 1) := by decide +kernel
theorem dL_law_272 : decode cL_law 272 = .ok (.iconst 2, 1) := by decide +kernel
theorem dL_law_273 : decode cL_law 273 = .ok (.iadd, 1) := by decide +kernel
theorem dL_law_274 : decode cL_law 274 = .ok (.iaload, 1) := by decide +kernel
theorem dL_law_275 : decode cL_law 275 = .ok (.aload_n 0, 1) := by decide +kernel
theorem dL_law_276 : decode cL_law 276 = .ok (.iload_n 3, 1) := by decide +kernel
theorem dL_law_277 : decode cL_law 277 = .ok (.iconst 3, 1) := by decide +kernel
theorem dL_law_278 : decode cL_law 278 = .ok (.iadd, 1) := by decide +kernel
theorem dL_law_279 : decode cL_law 279 = .ok (.iaload, 1) := by decide +kernel
theorem dL_law_280 : decode cL_law 280 = .ok (.invokevirtual 31, 3) := by decide +kernel
theorem dL_law_283 : decode cL_law 283 = .ok (.aload_n 2, 1) := by decide +kernel
theorem dL_law_284 : decode cL_law 284 = .ok (.aload_n 0, 1) := by decide +kernel
theorem dL_law_285 : decode cL_law 285 = .ok (.iload_n 3, 1) := by decide +kernel
theorem dL_law_286 : decode cL_law 286 = .ok (.iconst 1, 1) := by decide +kernel
theorem dL_law_287 : decode cL_law 287 = .ok (.iadd, 1) := by decide +kernel
theorem dL_law_288 : decode cL_law 288 = .ok (.iaload, 1) := by decide +kernel
theorem dL_law_289 : decode cL_law 289 = .ok (.aload_n 0, 1) := by decide +kernel
theorem dL_law_290 : decode cL_law 290 = .ok (.iload_n 3, 1) := by decide +kernel
theorem dL_law_291 : decode cL_law 291 = .ok (.iconst 2, 1) := by decide +kernel
theorem dL_law_292 : decode cL_law 292 = .ok (.iadd, 1) := by decide +kernel
theorem dL_law_293 : decode cL_law 293 = .ok (.iaload, 1) := by decide +kernel
theorem dL_law_294 : decode cL_law 294 = .ok (.aload_n 0, 1) := by decide +kernel
theorem dL_law_295 : decode cL_law 295 = .ok (.iload_n 3, 1) := by decide +kernel
theorem dL_law_296 : decode cL_law 296 = .ok (.iconst 3, 1) := by decide +kernel
theorem dL_law_297 : decode cL_law 297 = .ok (.iadd, 1) := by decide +kernel
theorem dL_law_298 : decode cL_law 298 = .ok (.iaload, 1) := by decide +kernel
theorem dL_law_299 : decode cL_law 299 = .ok (.invokevirtual 35, 3) := by decide +kernel
theorem dL_law_302 : decode cL_law 302 = .ok (.if_icmp .eq 735, 3) := by decide +kernel
theorem dL_law_305 : decode cL_law 305 = .ok (.iconst 0, 1) := by decide +kernel
theorem dL_law_306 : decode cL_law 306 = .ok (.ireturn, 1) := by decide +kernel
theorem dL_law_307 : decode cL_law 307 = .ok (.aload_n 1, 1) := by decide +kernel
theorem dL_law_308 : decode cL_law 308 = .ok (.aload_n 0, 1) := by decide +kernel
theorem dL_law_309 : decode cL_law 309 = .ok (.iload_n 3, 1) := by decide +kernel
theorem dL_law_310 : decode cL_law 310 = .ok (.iconst 1, 1) := by decide +kernel
theorem dL_law_311 : decode cL_law 311 = .ok (.iadd, 1) := by decide +kernel
theorem dL_law_312 : decode cL_law 312 = .ok (.iaload, 1) := by decide +kernel
theorem dL_law_313 : decode cL_law 313 = .ok (.invokevirtual 36, 3) := by decide +kernel
theorem dL_law_316 : decode cL_law 316 = .ok (.aload_n 2, 1) := by decide +kernel
theorem dL_law_317 : decode cL_law 317 = .ok (.aload_n 0, 1) := by decide +kernel
theorem dL_law_318 : decode cL_law 318 = .ok (.iload_n 3, 1) := by decide +kernel
theorem dL_law_319 : decode cL_law 319 = .ok (.iconst 1, 1) := by decide +kernel
theorem dL_law_320 : decode cL_law 320 = .ok (.iadd, 1) := by decide +kernel
theorem dL_law_321 : decode cL_law 321 = .ok (.iaload, 1) := by decide +kernel
theorem dL_law_322 : decode cL_law 322 = .ok (.invokevirtual 39, 3) := by decide +kernel
theorem dL_law_325 : decode cL_law 325 = .ok (.if_icmp .eq 712, 3) := by decide +kernel
theorem dL_law_328 : decode cL_law 328 = .ok (.iconst 0, 1) := by decide +kernel
theorem dL_law_329 : decode cL_law 329 = .ok (.ireturn, 1) := by decide +kernel
theorem dL_law_330 : decode cL_law 330 = .ok (.aload_n 1, 1) := by decide +kernel
theorem dL_law_331 : decode cL_law 331 = .ok (.aload_n 0, 1) := by decide +kernel
theorem dL_law_332 : decode cL_law 332 = .ok (.iload_n 3, 1) := by decide +kernel
theorem dL_law_333 : decode cL_law 333 = .ok (.iconst 1, 1) := by decide +kernel
theorem dL_law_334 : decode cL_law 334 = .ok (.iadd, 1) := by decide +kernel
theorem dL_law_335 : decode cL_law 335 = .ok (.iaload, 1) := by decide +kernel
theorem dL_law_336 : decode cL_law 336 = .ok (.invokevirtual 40, 3) := by decide +kernel
theorem dL_law_339 : decode cL_law 339 = .ok (.aload_n 2, 1) := by decide +kernel
theorem dL_law_340 : decode cL_law 340 = .ok (.aload_n 0, 1) := by decide +kernel
theorem dL_law_341 : decode cL_law 341 = .ok (.iload_n 3, 1) := by decide +kernel
theorem dL_law_342 : decode cL_law 342 = .ok (.iconst 1, 1) := by decide +kernel
theorem dL_law_343 : decode cL_law 343 = .ok (.iadd, 1) := by decide +kernel
theorem dL_law_344 : decode cL_law 344 = .ok (.iaload, 1) := by decide +kernel
theorem dL_law_345 : decode cL_law 345 = .ok (.invokevirtual 43, 3) := by decide +kernel
theorem dL_law_348 : decode cL_law 348 = .ok (.if_icmp .eq 689, 3) := by decide +kernel
theorem dL_law_351 : decode cL_law 351 = .ok (.iconst 0, 1) := by decide +kernel
theorem dL_law_352 : decode cL_law 352 = .ok (.ireturn, 1) := by decide +kernel
theorem dL_law_353 : decode cL_law 353 = .ok (.aload_n 1, 1) := by decide +kernel
theorem dL_law_354 : decode cL_law 354 = .ok (.aload_n 0, 1) := by decide +kernel
theorem dL_law_355 : decode cL_law 355 = .ok (.iload_n 3, 1) := by decide +kernel
theorem dL_law_356 : decode cL_law 356 = .ok (.iconst 1, 1) := by decide +kernel
theorem dL_law_357 : decode cL_law 357 = .ok (.iadd, 1) := by decide +kernel
theorem dL_law_358 : decode cL_law 358 = .ok (.iaload, 1) := by decide +kernel
theorem dL_law_359 : decode cL_law 359 = .ok (.invokevirtual 44, 3) := by decide +kernel
theorem dL_law_362 : decode cL_law 362 = .ok (.aload_n 2, 1) := by decide +kernel
theorem dL_law_363 : decode cL_law 363 = .ok (.aload_n 0, 1) := by decide +kernel
theorem dL_law_364 : decode cL_law 364 = .ok (.iload_n 3, 1) := by decide +kernel
theorem dL_law_365 : decode cL_law 365 = .ok (.iconst 1, 1) := by decide +kernel
theorem dL_law_366 : decode cL_law 366 = .ok (.iadd, 1) := by decide +kernel
theorem dL_law_367 : decode cL_law 367 = .ok (.iaload, 1) := by decide +kernel
theorem dL_law_368 : decode cL_law 368 = .ok (.invokevirtual 48, 3) := by decide +kernel
theorem dL_law_371 : decode cL_law 371 = .ok (.if_icmp .eq 666, 3) := by decide +kernel
theorem dL_law_374 : decode cL_law 374 = .ok (.iconst 0, 1) := by decide +kernel
theorem dL_law_375 : decode cL_law 375 = .ok (.ireturn, 1) := by decide +kernel
theorem dL_law_376 : decode cL_law 376 = .ok (.aload_n 1, 1) := by decide +kernel
theorem dL_law_377 : decode cL_law 377 = .ok (.aload_n 0, 1) := by decide +kernel
theorem dL_law_378 : decode cL_law 378 = .ok (.iload_n 3, 1) := by decide +kernel
theorem dL_law_379 : decode cL_law 379 = .ok (.iconst 1, 1) := by decide +kernel
theorem dL_law_380 : decode cL_law 380 = .ok (.iadd, 1) := by decide +kernel
theorem dL_law_381 : decode cL_law 381 = .ok (.iaload, 1) := by decide +kernel
theorem dL_law_382 : decode cL_law 382 = .ok (.aload_n 0, 1) := by decide +kernel
theorem dL_law_383 : decode cL_law 383 = .ok (.iload_n 3, 1) := by decide +kernel
theorem dL_law_384 : decode cL_law 384 = .ok (.iconst 2, 1) := by decide +kernel
theorem dL_law_385 : decode cL_law 385 = .ok (.iadd, 1) := by decide +kernel
theorem dL_law_386 : decode cL_law 386 = .ok (.iaload, 1) := by decide +kernel
theorem dL_law_387 : decode cL_law 387 = .ok (.aload_n 0, 1) := by decide +kernel
theorem dL_law_388 : decode cL_law 388 = .ok (.iload_n 3, 1) := by decide +kernel
theorem dL_law_389 : decode cL_law 389 = .ok (.iconst 3, 1) := by decide +kernel
theorem dL_law_390 : decode cL_law 390 = .ok (.iadd, 1) := by decide +kernel
theorem dL_law_391 : decode cL_law 391 = .ok (.iaload, 1) := by decide +kernel
theorem dL_law_392 : decode cL_law 392 = .ok (.ifCond .eq 7, 3) := by decide +kernel
theorem dL_law_395 : decode cL_law 395 = .ok (.iconst 1, 1) := by decide +kernel
theorem dL_law_396 : decode cL_law 396 = .ok (.goto 4, 3) := by decide +kernel
theorem dL_law_399 : decode cL_law 399 = .ok (.iconst 0, 1) := by decide +kernel
theorem dL_law_400 : decode cL_law 400 = .ok (.aload_n 0, 1) := by decide +kernel
theorem dL_law_401 : decode cL_law 401 = .ok (.iload_n 3, 1) := by decide +kernel
theorem dL_law_402 : decode cL_law 402 = .ok (.iconst 4, 1) := by decide +kernel
theorem dL_law_403 : decode cL_law 403 = .ok (.iadd, 1) := by decide +kernel
theorem dL_law_404 : decode cL_law 404 = .ok (.iaload, 1) := by decide +kernel
theorem dL_law_405 : decode cL_law 405 = .ok (.aload_n 0, 1) := by decide +kernel
theorem dL_law_406 : decode cL_law 406 = .ok (.iload_n 3, 1) := by decide +kernel
theorem dL_law_407 : decode cL_law 407 = .ok (.iconst 5, 1) := by decide +kernel
theorem dL_law_408 : decode cL_law 408 = .ok (.iadd, 1) := by decide +kernel
theorem dL_law_409 : decode cL_law 409 = .ok (.iaload, 1) := by decide +kernel
theorem dL_law_410 : decode cL_law 410 = .ok (.aload_n 0, 1) := by decide +kernel
theorem dL_law_411 : decode cL_law 411 = .ok (.iload_n 3, 1) := by decide +kernel
theorem dL_law_412 : decode cL_law 412 = .ok (.bipush 6, 2) := by decide +kernel
theorem dL_law_414 : decode cL_law 414 = .ok (.iadd, 1) := by decide +kernel
theorem dL_law_415 : decode cL_law 415 = .ok (.iaload, 1) := by decide +kernel
theorem dL_law_416 : decode cL_law 416 = .ok (.aload_n 0, 1) := by decide +kernel
theorem dL_law_417 : decode cL_law 417 = .ok (.iload_n 3, 1) := by decide +kernel
theorem dL_law_418 : decode cL_law 418 = .ok (.bipush 7, 2) := by decide +kernel
theorem dL_law_420 : decode cL_law 420 = .ok (.iadd, 1) := by decide +kernel
theorem dL_law_421 : decode cL_law 421 = .ok (.iaload, 1) := by decide +kernel
theorem dL_law_422 : decode cL_law 422 = .ok (.aload_n 0, 1) := by decide +kernel
theorem dL_law_423 : decode cL_law 423 = .ok (.iload_n 3, 1) := by decide +kernel
theorem dL_law_424 : decode cL_law 424 = .ok (.bipush 8, 2) := by decide +kernel
theorem dL_law_426 : decode cL_law 426 = .ok (.iadd, 1) := by decide +kernel
theorem dL_law_427 : decode cL_law 427 = .ok (.iaload, 1) := by decide +kernel
theorem dL_law_428 : decode cL_law 428 = .ok (.invokevirtual 49, 3) := by decide +kernel
theorem dL_law_431 : decode cL_law 431 = .ok (.aload_n 2, 1) := by decide +kernel
theorem dL_law_432 : decode cL_law 432 = .ok (.aload_n 0, 1) := by decide +kernel
theorem dL_law_433 : decode cL_law 433 = .ok (.iload_n 3, 1) := by decide +kernel
theorem dL_law_434 : decode cL_law 434 = .ok (.iconst 1, 1) := by decide +kernel
theorem dL_law_435 : decode cL_law 435 = .ok (.iadd, 1) := by decide +kernel
theorem dL_law_436 : decode cL_law 436 = .ok (.iaload, 1) := by decide +kernel
theorem dL_law_437 : decode cL_law 437 = .ok (.aload_n 0, 1) := by decide +kernel
theorem dL_law_438 : decode cL_law 438 = .ok (.iload_n 3, 1) := by decide +kernel
theorem dL_law_439 : decode cL_law 439 = .ok (.iconst 2, 1) := by decide +kernel
theorem dL_law_440 : decode cL_law 440 = .ok (.iadd, 1) := by decide +kernel
theorem dL_law_441 : decode cL_law 441 = .ok (.iaload, 1) := by decide +kernel
theorem dL_law_442 : decode cL_law 442 = .ok (.aload_n 0, 1) := by decide +kernel
theorem dL_law_443 : decode cL_law 443 = .ok (.iload_n 3, 1) := by decide +kernel
theorem dL_law_444 : decode cL_law 444 = .ok (.iconst 3, 1) := by decide +kernel
theorem dL_law_445 : decode cL_law 445 = .ok (.iadd, 1) := by decide +kernel
theorem dL_law_446 : decode cL_law 446 = .ok (.iaload, 1) := by decide +kernel
theorem dL_law_447 : decode cL_law 447 = .ok (.ifCond .eq 7, 3) := by decide +kernel
theorem dL_law_450 : decode cL_law 450 = .ok (.iconst 1, 1) := by decide +kernel
theorem dL_law_451 : decode cL_law 451 = .ok (.goto 4, 3) := by decide +kernel
theorem dL_law_454 : decode cL_law 454 = .ok (.iconst 0, 1) := by decide +kernel
theorem dL_law_455 : decode cL_law 455 = .ok (.aload_n 0, 1) := by decide +kernel
theorem dL_law_456 : decode cL_law 456 = .ok (.iload_n 3, 1) := by decide +kernel
theorem dL_law_457 : decode cL_law 457 = .ok (.iconst 4, 1) := by decide +kernel
theorem dL_law_458 : decode cL_law 458 = .ok (.iadd, 1) := by decide +kernel
theorem dL_law_459 : decode cL_law 459 = .ok (.iaload, 1) := by decide +kernel
theorem dL_law_460 : decode cL_law 460 = .ok (.aload_n 0, 1) := by decide +kernel
theorem dL_law_461 : decode cL_law 461 = .ok (.iload_n 3, 1) := by decide +kernel
theorem dL_law_462 : decode cL_law 462 = .ok (.iconst 5, 1) := by decide +kernel
theorem dL_law_463 : decode cL_law 463 = .ok (.iadd, 1) := by decide +kernel
theorem dL_law_464 : decode cL_law 464 = .ok (.iaload, 1) := by decide +kernel
theorem dL_law_465 : decode cL_law 465 = .ok (.aload_n 0, 1) := by decide +kernel
theorem dL_law_466 : decode cL_law 466 = .ok (.iload_n 3, 1) := by decide +kernel
theorem dL_law_467 : decode cL_law 467 = .ok (.bipush 6, 2) := by decide +kernel
theorem dL_law_469 : decode cL_law 469 = .ok (.iadd, 1) := by decide +kernel
theorem dL_law_470 : decode cL_law 470 = .ok (.iaload, 1) := by decide +kernel
theorem dL_law_471 : decode cL_law 471 = .ok (.aload_n 0, 1) := by decide +kernel
theorem dL_law_472 : decode cL_law 472 = .ok (.iload_n 3, 1) := by decide +kernel
theorem dL_law_473 : decode cL_law 473 = .ok (.bipush 7, 2) := by decide +kernel
theorem dL_law_475 : decode cL_law 475 = .ok (.iadd, 1) := by decide +kernel
theorem dL_law_476 : decode cL_law 476 = .ok (.iaload, 1) := by decide +kernel
theorem dL_law_477 : decode cL_law 477 = .ok (.aload_n 0, 1) := by decide +kernel
theorem dL_law_478 : decode cL_law 478 = .ok (.iload_n 3, 1) := by decide +kernel
theorem dL_law_479 : decode cL_law 479 = .ok (.bipush 8, 2) := by decide +kernel
theorem dL_law_481 : decode cL_law 481 = .ok (.iadd, 1) := by decide +kernel
theorem dL_law_482 : decode cL_law 482 = .ok (.iaload, 1) := by decide +kernel
theorem dL_law_483 : decode cL_law 483 = .ok (.invokevirtual 53, 3) := by decide +kernel
theorem dL_law_486 : decode cL_law 486 = .ok (.if_icmp .eq 551, 3) := by decide +kernel
theorem dL_law_489 : decode cL_law 489 = .ok (.iconst 0, 1) := by decide +kernel
theorem dL_law_490 : decode cL_law 490 = .ok (.ireturn, 1) := by decide +kernel
theorem dL_law_491 : decode cL_law 491 = .ok (.aload_n 1, 1) := by decide +kernel
theorem dL_law_492 : decode cL_law 492 = .ok (.aload_n 0, 1) := by decide +kernel
theorem dL_law_493 : decode cL_law 493 = .ok (.iload_n 3, 1) := by decide +kernel
theorem dL_law_494 : decode cL_law 494 = .ok (.iconst 1, 1) := by decide +kernel
theorem dL_law_495 : decode cL_law 495 = .ok (.iadd, 1) := by decide +kernel
theorem dL_law_496 : decode cL_law 496 = .ok (.iaload, 1) := by decide +kernel
theorem dL_law_497 : decode cL_law 497 = .ok (.aload_n 0, 1) := by decide +kernel
theorem dL_law_498 : decode cL_law 498 = .ok (.iload_n 3, 1) := by decide +kernel
theorem dL_law_499 : decode cL_law 499 = .ok (.iconst 2, 1) := by decide +kernel
theorem dL_law_500 : decode cL_law 500 = .ok (.iadd, 1) := by decide +kernel
theorem dL_law_501 : decode cL_law 501 = .ok (.iaload, 1) := by decide +kernel
theorem dL_law_502 : decode cL_law 502 = .ok (.aload_n 0, 1) := by decide +kernel
theorem dL_law_503 : decode cL_law 503 = .ok (.iload_n 3, 1) := by decide +kernel
theorem dL_law_504 : decode cL_law 504 = .ok (.iconst 3, 1) := by decide +kernel
theorem dL_law_505 : decode cL_law 505 = .ok (.iadd, 1) := by decide +kernel
theorem dL_law_506 : decode cL_law 506 = .ok (.iaload, 1) := by decide +kernel
theorem dL_law_507 : decode cL_law 507 = .ok (.invokevirtual 54, 3) := by decide +kernel
theorem dL_law_510 : decode cL_law 510 = .ok (.aload_n 2, 1) := by decide +kernel
theorem dL_law_511 : decode cL_law 511 = .ok (.aload_n 0, 1) := by decide +kernel
theorem dL_law_512 : decode cL_law 512 = .ok (.iload_n 3, 1) := by decide +kernel
theorem dL_law_513 : decode cL_law 513 = .ok (.iconst 1, 1) := by decide +kernel
theorem dL_law_514 : decode cL_law 514 = .ok (.iadd, 1) := by decide +kernel
theorem dL_law_515 : decode cL_law 515 = .ok (.iaload, 1) := by decide +kernel
theorem dL_law_516 : decode cL_law 516 = .ok (.aload_n 0, 1) := by decide +kernel
theorem dL_law_517 : decode cL_law 517 = .ok (.iload_n 3, 1) := by decide +kernel
theorem dL_law_518 : decode cL_law 518 = .ok (.iconst 2, 1) := by decide +kernel
theorem dL_law_519 : decode cL_law 519 = .ok (.iadd, 1) := by decide +kernel
theorem dL_law_520 : decode cL_law 520 = .ok (.iaload, 1) := by decide +kernel
theorem dL_law_521 : decode cL_law 521 = .ok (.aload_n 0, 1) := by decide +kernel
theorem dL_law_522 : decode cL_law 522 = .ok (.iload_n 3, 1) := by decide +kernel
theorem dL_law_523 : decode cL_law 523 = .ok (.iconst 3, 1) := by decide +kernel
theorem dL_law_524 : decode cL_law 524 = .ok (.iadd, 1) := by decide +kernel
theorem dL_law_525 : decode cL_law 525 = .ok (.iaload, 1) := by decide +kernel
theorem dL_law_526 : decode cL_law 526 = .ok (.invokevirtual 58, 3) := by decide +kernel
theorem dL_law_529 : decode cL_law 529 = .ok (.if_icmp .eq 508, 3) := by decide +kernel
theorem dL_law_532 : decode cL_law 532 = .ok (.iconst 0, 1) := by decide +kernel
theorem dL_law_533 : decode cL_law 533 = .ok (.ireturn, 1) := by decide +kernel
theorem dL_law_534 : decode cL_law 534 = .ok (.aload_n 1, 1) := by decide +kernel
theorem dL_law_535 : decode cL_law 535 = .ok (.aload_n 0, 1) := by decide +kernel
theorem dL_law_536 : decode cL_law 536 = .ok (.iload_n 3, 1) := by decide +kernel
theorem dL_law_537 : decode cL_law 537 = .ok (.iconst 1, 1) := by decide +kernel
theorem dL_law_538 : decode cL_law 538 = .ok (.iadd, 1) := by decide +kernel
theorem dL_law_539 : decode cL_law 539 = .ok (.iaload, 1) := by decide +kernel
theorem dL_law_540 : decode cL_law 540 = .ok (.aload_n 0, 1) := by decide +kernel
theorem dL_law_541 : decode cL_law 541 = .ok (.iload_n 3, 1) := by decide +kernel
theorem dL_law_542 : decode cL_law 542 = .ok (.iconst 2, 1) := by decide +kernel
theorem dL_law_543 : decode cL_law 543 = .ok (.iadd, 1) := by decide +kernel
theorem dL_law_544 : decode cL_law 544 = .ok (.iaload, 1) := by decide +kernel
theorem dL_law_545 : decode cL_law 545 = .ok (.aload_n 0, 1) := by decide +kernel
theorem dL_law_546 : decode cL_law 546 = .ok (.iload_n 3, 1) := by decide +kernel
theorem dL_law_547 : decode cL_law 547 = .ok (.iconst 3, 1) := by decide +kernel
theorem dL_law_548 : decode cL_law 548 = .ok (.iadd, 1) := by decide +kernel
theorem dL_law_549 : decode cL_law 549 = .ok (.iaload, 1) := by decide +kernel
theorem dL_law_550 : decode cL_law 550 = .ok (.ifCond .eq 7, 3) := by decide +kernel
theorem dL_law_553 : decode cL_law 553 = .ok (.iconst 1, 1) := by decide +kernel
theorem dL_law_554 : decode cL_law 554 = .ok (.goto 4, 3) := by decide +kernel
theorem dL_law_557 : decode cL_law 557 = .ok (.iconst 0, 1) := by decide +kernel
theorem dL_law_558 : decode cL_law 558 = .ok (.invokevirtual 59, 3) := by decide +kernel
theorem dL_law_561 : decode cL_law 561 = .ok (.aload_n 2, 1) := by decide +kernel
theorem dL_law_562 : decode cL_law 562 = .ok (.aload_n 0, 1) := by decide +kernel
theorem dL_law_563 : decode cL_law 563 = .ok (.iload_n 3, 1) := by decide +kernel
theorem dL_law_564 : decode cL_law 564 = .ok (.iconst 1, 1) := by decide +kernel
theorem dL_law_565 : decode cL_law 565 = .ok (.iadd, 1) := by decide +kernel
theorem dL_law_566 : decode cL_law 566 = .ok (.iaload, 1) := by decide +kernel
theorem dL_law_567 : decode cL_law 567 = .ok (.aload_n 0, 1) := by decide +kernel
theorem dL_law_568 : decode cL_law 568 = .ok (.iload_n 3, 1) := by decide +kernel
theorem dL_law_569 : decode cL_law 569 = .ok (.iconst 2, 1) := by decide +kernel
theorem dL_law_570 : decode cL_law 570 = .ok (.iadd, 1) := by decide +kernel
theorem dL_law_571 : decode cL_law 571 = .ok (.iaload, 1) := by decide +kernel
theorem dL_law_572 : decode cL_law 572 = .ok (.aload_n 0, 1) := by decide +kernel
theorem dL_law_573 : decode cL_law 573 = .ok (.iload_n 3, 1) := by decide +kernel
theorem dL_law_574 : decode cL_law 574 = .ok (.iconst 3, 1) := by decide +kernel
theorem dL_law_575 : decode cL_law 575 = .ok (.iadd, 1) := by decide +kernel
theorem dL_law_576 : decode cL_law 576 = .ok (.iaload, 1) := by decide +kernel
theorem dL_law_577 : decode cL_law 577 = .ok (.ifCond .eq 7, 3) := by decide +kernel
theorem dL_law_580 : decode cL_law 580 = .ok (.iconst 1, 1) := by decide +kernel
theorem dL_law_581 : decode cL_law 581 = .ok (.goto 4, 3) := by decide +kernel
theorem dL_law_584 : decode cL_law 584 = .ok (.iconst 0, 1) := by decide +kernel
theorem dL_law_585 : decode cL_law 585 = .ok (.invokevirtual 63, 3) := by decide +kernel
theorem dL_law_588 : decode cL_law 588 = .ok (.if_icmp .eq 449, 3) := by decide +kernel
theorem dL_law_591 : decode cL_law 591 = .ok (.iconst 0, 1) := by decide +kernel
theorem dL_law_592 : decode cL_law 592 = .ok (.ireturn, 1) := by decide +kernel
theorem dL_law_593 : decode cL_law 593 = .ok (.aload_n 1, 1) := by decide +kernel
theorem dL_law_594 : decode cL_law 594 = .ok (.aload_n 0, 1) := by decide +kernel
theorem dL_law_595 : decode cL_law 595 = .ok (.iload_n 3, 1) := by decide +kernel
theorem dL_law_596 : decode cL_law 596 = .ok (.iconst 1, 1) := by decide +kernel
theorem dL_law_597 : decode cL_law 597 = .ok (.iadd, 1) := by decide +kernel
theorem dL_law_598 : decode cL_law 598 = .ok (.iaload, 1) := by decide +kernel
theorem dL_law_599 : decode cL_law 599 = .ok (.aload_n 0, 1) := by decide +kernel
theorem dL_law_600 : decode cL_law 600 = .ok (.iload_n 3, 1) := by decide +kernel
theorem dL_law_601 : decode cL_law 601 = .ok (.iconst 2, 1) := by decide +kernel
theorem dL_law_602 : decode cL_law 602 = .ok (.iadd, 1) := by decide +kernel
theorem dL_law_603 : decode cL_law 603 = .ok (.iaload, 1) := by decide +kernel
theorem dL_law_604 : decode cL_law 604 = .ok (.aload_n 0, 1) := by decide +kernel
theorem dL_law_605 : decode cL_law 605 = .ok (.iload_n 3, 1) := by decide +kernel
theorem dL_law_606 : decode cL_law 606 = .ok (.iconst 3, 1) := by decide +kernel
theorem dL_law_607 : decode cL_law 607 = .ok (.iadd, 1) := by decide +kernel
theorem dL_law_608 : decode cL_law 608 = .ok (.iaload, 1) := by decide +kernel
theorem dL_law_609 : decode cL_law 609 = .ok (.ifCond .eq 7, 3) := by decide +kernel
theorem dL_law_612 : decode cL_law 612 = .ok (.iconst 1, 1) := by decide +kernel
theorem dL_law_613 : decode cL_law 613 = .ok (.goto 4, 3) := by decide +kernel
theorem dL_law_616 : decode cL_law 616 = .ok (.iconst 0, 1) := by decide +kernel
theorem dL_law_617 : decode cL_law 617 = .ok (.invokevirtual 64, 3) := by decide +kernel
theorem dL_law_620 : decode cL_law 620 = .ok (.aload_n 2, 1) := by decide +kernel
theorem dL_law_621 : decode cL_law 621 = .ok (.aload_n 0, 1) := by decide +kernel
theorem dL_law_622 : decode cL_law 622 = .ok (.iload_n 3, 1) := by decide +kernel
theorem dL_law_623 : decode cL_law 623 = .ok (.iconst 1, 1) := by decide +kernel
theorem dL_law_624 : decode cL_law 624 = .ok (.iadd, 1) := by decide +kernel
theorem dL_law_625 : decode cL_law 625 = .ok (.iaload, 1) := by decide +kernel
theorem dL_law_626 : decode cL_law 626 = .ok (.aload_n 0, 1) := by decide +kernel
theorem dL_law_627 : decode cL_law 627 = .ok (.iload_n 3, 1) := by decide +kernel
theorem dL_law_628 : decode cL_law 628 = .ok (.iconst 2, 1) := by decide +kernel
theorem dL_law_629 : decode cL_law 629 = .ok (.iadd, 1) := by decide +kernel
theorem dL_law_630 : decode cL_law 630 = .ok (.iaload, 1) := by decide +kernel
theorem dL_law_631 : decode cL_law 631 = .ok (.aload_n 0, 1) := by decide +kernel
theorem dL_law_632 : decode cL_law 632 = .ok (.iload_n 3, 1) := by decide +kernel
theorem dL_law_633 : decode cL_law 633 = .ok (.iconst 3, 1) := by decide +kernel
theorem dL_law_634 : decode cL_law 634 = .ok (.iadd, 1) := by decide +kernel
theorem dL_law_635 : decode cL_law 635 = .ok (.iaload, 1) := by decide +kernel
theorem dL_law_636 : decode cL_law 636 = .ok (.ifCond .eq 7, 3) := by decide +kernel
theorem dL_law_639 : decode cL_law 639 = .ok (.iconst 1, 1) := by decide +kernel
theorem dL_law_640 : decode cL_law 640 = .ok (.goto 4, 3) := by decide +kernel
theorem dL_law_643 : decode cL_law 643 = .ok (.iconst 0, 1) := by decide +kernel
theorem dL_law_644 : decode cL_law 644 = .ok (.invokevirtual 67, 3) := by decide +kernel
theorem dL_law_647 : decode cL_law 647 = .ok (.if_icmp .eq 390, 3) := by decide +kernel
theorem dL_law_650 : decode cL_law 650 = .ok (.iconst 0, 1) := by decide +kernel
theorem dL_law_651 : decode cL_law 651 = .ok (.ireturn, 1) := by decide +kernel
theorem dL_law_652 : decode cL_law 652 = .ok (.aload_n 1, 1) := by decide +kernel
theorem dL_law_653 : decode cL_law 653 = .ok (.aload_n 0, 1) := by decide +kernel
theorem dL_law_654 : decode cL_law 654 = .ok (.iload_n 3, 1) := by decide +kernel
theorem dL_law_655 : decode cL_law 655 = .ok (.iconst 1, 1) := by decide +kernel
theorem dL_law_656 : decode cL_law 656 = .ok (.iadd, 1) := by decide +kernel
theorem dL_law_657 : decode cL_law 657 = .ok (.iaload, 1) := by decide +kernel
theorem dL_law_658 : decode cL_law 658 = .ok (.invokevirtual 68, 3) := by decide +kernel
theorem dL_law_661 : decode cL_law 661 = .ok (.aload_n 2, 1) := by decide +kernel
theorem dL_law_662 : decode cL_law 662 = .ok (.aload_n 0, 1) := by decide +kernel
theorem dL_law_663 : decode cL_law 663 = .ok (.iload_n 3, 1) := by decide +kernel
theorem dL_law_664 : decode cL_law 664 = .ok (.iconst 1, 1) := by decide +kernel
theorem dL_law_665 : decode cL_law 665 = .ok (.iadd, 1) := by decide +kernel
theorem dL_law_666 : decode cL_law 666 = .ok (.iaload, 1) := by decide +kernel
theorem dL_law_667 : decode cL_law 667 = .ok (.invokevirtual 71, 3) := by decide +kernel
theorem dL_law_670 : decode cL_law 670 = .ok (.if_icmp .eq 367, 3) := by decide +kernel
theorem dL_law_673 : decode cL_law 673 = .ok (.iconst 0, 1) := by decide +kernel
theorem dL_law_674 : decode cL_law 674 = .ok (.ireturn, 1) := by decide +kernel
theorem dL_law_675 : decode cL_law 675 = .ok (.aload_n 1, 1) := by decide +kernel
theorem dL_law_676 : decode cL_law 676 = .ok (.aload_n 0, 1) := by decide +kernel
theorem dL_law_677 : decode cL_law 677 = .ok (.iload_n 3, 1) := by decide +kernel
theorem dL_law_678 : decode cL_law 678 = .ok (.iconst 1, 1) := by decide +kernel
theorem dL_law_679 : decode cL_law 679 = .ok (.iadd, 1) := by decide +kernel
theorem dL_law_680 : decode cL_law 680 = .ok (.iaload, 1) := by decide +kernel
theorem dL_law_681 : decode cL_law 681 = .ok (.aload_n 0, 1) := by decide +kernel
theorem dL_law_682 : decode cL_law 682 = .ok (.iload_n 3, 1) := by decide +kernel
theorem dL_law_683 : decode cL_law 683 = .ok (.iconst 2, 1) := by decide +kernel
theorem dL_law_684 : decode cL_law 684 = .ok (.iadd, 1) := by decide +kernel
theorem dL_law_685 : decode cL_law 685 = .ok (.iaload, 1) := by decide +kernel
theorem dL_law_686 : decode cL_law 686 = .ok (.invokevirtual 72, 3) := by decide +kernel
theorem dL_law_689 : decode cL_law 689 = .ok (.aload_n 2, 1) := by decide +kernel
theorem dL_law_690 : decode cL_law 690 = .ok (.aload_n 0, 1) := by decide +kernel
theorem dL_law_691 : decode cL_law 691 = .ok (.iload_n 3, 1) := by decide +kernel
theorem dL_law_692 : decode cL_law 692 = .ok (.iconst 1, 1) := by decide +kernel
theorem dL_law_693 : decode cL_law 693 = .ok (.iadd, 1) := by decide +kernel
theorem dL_law_694 : decode cL_law 694 = .ok (.iaload, 1) := by decide +kernel
theorem dL_law_695 : decode cL_law 695 = .ok (.aload_n 0, 1) := by decide +kernel
theorem dL_law_696 : decode cL_law 696 = .ok (.iload_n 3, 1) := by decide +kernel
theorem dL_law_697 : decode cL_law 697 = .ok (.iconst 2, 1) := by decide +kernel
theorem dL_law_698 : decode cL_law 698 = .ok (.iadd, 1) := by decide +kernel
theorem dL_law_699 : decode cL_law 699 = .ok (.iaload, 1) := by decide +kernel
theorem dL_law_700 : decode cL_law 700 = .ok (.invokevirtual 76, 3) := by decide +kernel
theorem dL_law_703 : decode cL_law 703 = .ok (.if_icmp .eq 334, 3) := by decide +kernel
theorem dL_law_706 : decode cL_law 706 = .ok (.iconst 0, 1) := by decide +kernel
theorem dL_law_707 : decode cL_law 707 = .ok (.ireturn, 1) := by decide +kernel
theorem dL_law_708 : decode cL_law 708 = .ok (.aload_n 1, 1) := by decide +kernel
theorem dL_law_709 : decode cL_law 709 = .ok (.aload_n 0, 1) := by decide +kernel
theorem dL_law_710 : decode cL_law 710 = .ok (.iload_n 3, 1) := by decide +kernel
theorem dL_law_711 : decode cL_law 711 = .ok (.iconst 1, 1) := by decide +kernel
theorem dL_law_712 : decode cL_law 712 = .ok (.iadd, 1) := by decide +kernel
theorem dL_law_713 : decode cL_law 713 = .ok (.iaload, 1) := by decide +kernel
theorem dL_law_714 : decode cL_law 714 = .ok (.invokevirtual 77, 3) := by decide +kernel
theorem dL_law_717 : decode cL_law 717 = .ok (.aload_n 2, 1) := by decide +kernel
theorem dL_law_718 : decode cL_law 718 = .ok (.aload_n 0, 1) := by decide +kernel
theorem dL_law_719 : decode cL_law 719 = .ok (.iload_n 3, 1) := by decide +kernel
theorem dL_law_720 : decode cL_law 720 = .ok (.iconst 1, 1) := by decide +kernel
theorem dL_law_721 : decode cL_law 721 = .ok (.iadd, 1) := by decide +kernel
theorem dL_law_722 : decode cL_law 722 = .ok (.iaload, 1) := by decide +kernel
theorem dL_law_723 : decode cL_law 723 = .ok (.invokevirtual 80, 3) := by decide +kernel
theorem dL_law_726 : decode cL_law 726 = .ok (.if_icmp .eq 311, 3) := by decide +kernel
theorem dL_law_729 : decode cL_law 729 = .ok (.iconst 0, 1) := by decide +kernel
theorem dL_law_730 : decode cL_law 730 = .ok (.ireturn, 1) := by decide +kernel
theorem dL_law_731 : decode cL_law 731 = .ok (.aload_n 1, 1) := by decide +kernel
theorem dL_law_732 : decode cL_law 732 = .ok (.aload_n 0, 1) := by decide +kernel
theorem dL_law_733 : decode cL_law 733 = .ok (.iload_n 3, 1) := by decide +kernel
theorem dL_law_734 : decode cL_law 734 = .ok (.iconst 1, 1) := by decide +kernel
theorem dL_law_735 : decode cL_law 735 = .ok (.iadd, 1) := by decide +kernel
theorem dL_law_736 : decode cL_law 736 = .ok (.iaload, 1) := by decide +kernel
theorem dL_law_737 : decode cL_law 737 = .ok (.aload_n 0, 1) := by decide +kernel
theorem dL_law_738 : decode cL_law 738 = .ok (.iload_n 3, 1) := by decide +kernel
theorem dL_law_739 : decode cL_law 739 = .ok (.iconst 2, 1) := by decide +kernel
theorem dL_law_740 : decode cL_law 740 = .ok (.iadd, 1) := by decide +kernel
theorem dL_law_741 : decode cL_law 741 = .ok (.iaload, 1) := by decide +kernel
theorem dL_law_742 : decode cL_law 742 = .ok (.invokevirtual 81, 3) := by decide +kernel
theorem dL_law_745 : decode cL_law 745 = .ok (.aload_n 2, 1) := by decide +kernel
theorem dL_law_746 : decode cL_law 746 = .ok (.aload_n 0, 1) := by decide +kernel
theorem dL_law_747 : decode cL_law 747 = .ok (.iload_n 3, 1) := by decide +kernel
theorem dL_law_748 : decode cL_law 748 = .ok (.iconst 1, 1) := by decide +kernel
theorem dL_law_749 : decode cL_law 749 = .ok (.iadd, 1) := by decide +kernel
theorem dL_law_750 : decode cL_law 750 = .ok (.iaload, 1) := by decide +kernel
theorem dL_law_751 : decode cL_law 751 = .ok (.aload_n 0, 1) := by decide +kernel
theorem dL_law_752 : decode cL_law 752 = .ok (.iload_n 3, 1) := by decide +kernel
theorem dL_law_753 : decode cL_law 753 = .ok (.iconst 2, 1) := by decide +kernel
theorem dL_law_754 : decode cL_law 754 = .ok (.iadd, 1) := by decide +kernel
theorem dL_law_755 : decode cL_law 755 = .ok (.iaload, 1) := by decide +kernel
theorem dL_law_756 : decode cL_law 756 = .ok (.invokevirtual 84, 3) := by decide +kernel
theorem dL_law_759 : decode cL_law 759 = .ok (.if_icmp .eq 278, 3) := by decide +kernel
theorem dL_law_762 : decode cL_law 762 = .ok (.iconst 0, 1) := by decide +kernel
theorem dL_law_763 : decode cL_law 763 = .ok (.ireturn, 1) := by decide +kernel
theorem dL_law_764 : decode cL_law 764 = .ok (.aload_n 1, 1) := by decide +kernel
theorem dL_law_765 : decode cL_law 765 = .ok (.aload_n 0, 1) := by decide +kernel
theorem dL_law_766 : decode cL_law 766 = .ok (.iload_n 3, 1) := by decide +kernel
theorem dL_law_767 : decode cL_law 767 = .ok (.iconst 1, 1) := by decide +kernel
theorem dL_law_768 : decode cL_law 768 = .ok (.iadd, 1) := by decide +kernel
theorem dL_law_769 : decode cL_law 769 = .ok (.iaload, 1) := by decide +kernel
theorem dL_law_770 : decode cL_law 770 = .ok (.aload_n 0, 1) := by decide +kernel
theorem dL_law_771 : decode cL_law 771 = .ok (.iload_n 3, 1) := by decide +kernel
theorem dL_law_772 : decode cL_law 772 = .ok (.iconst 2, 1) := by decide +kernel
theorem dL_law_773 : decode cL_law 773 = .ok (.iadd, 1) := by decide +kernel
theorem dL_law_774 : decode cL_law 774 = .ok (.iaload, 1) := by decide +kernel
theorem dL_law_775 : decode cL_law 775 = .ok (.aload_n 0, 1) := by decide +kernel
theorem dL_law_776 : decode cL_law 776 = .ok (.iload_n 3, 1) := by decide +kernel
theorem dL_law_777 : decode cL_law 777 = .ok (.iconst 3, 1) := by decide +kernel
theorem dL_law_778 : decode cL_law 778 = .ok (.iadd, 1) := by decide +kernel
theorem dL_law_779 : decode cL_law 779 = .ok (.iaload, 1) := by decide +kernel
theorem dL_law_780 : decode cL_law 780 = .ok (.aload_n 0, 1) := by decide +kernel
theorem dL_law_781 : decode cL_law 781 = .ok (.iload_n 3, 1) := by decide +kernel
theorem dL_law_782 : decode cL_law 782 = .ok (.iconst 4, 1) := by decide +kernel
theorem dL_law_783 : decode cL_law 783 = .ok (.iadd, 1) := by decide +kernel
theorem dL_law_784 : decode cL_law 784 = .ok (.iaload, 1) := by decide +kernel
theorem dL_law_785 : decode cL_law 785 = .ok (.aload_n 0, 1) := by decide +kernel
theorem dL_law_786 : decode cL_law 786 = .ok (.iload_n 3, 1) := by decide +kernel
theorem dL_law_787 : decode cL_law 787 = .ok (.iconst 5, 1) := by decide +kernel
theorem dL_law_788 : decode cL_law 788 = .ok (.iadd, 1) := by decide +kernel
theorem dL_law_789 : decode cL_law 789 = .ok (.iaload, 1) := by decide +kernel
theorem dL_law_790 : decode cL_law 790 = .ok (.invokevirtual 85, 3) := by decide +kernel
theorem dL_law_793 : decode cL_law 793 = .ok (.aload_n 2, 1) := by decide +kernel
theorem dL_law_794 : decode cL_law 794 = .ok (.aload_n 0, 1) := by decide +kernel
theorem dL_law_795 : decode cL_law 795 = .ok (.iload_n 3, 1) := by decide +kernel
theorem dL_law_796 : decode cL_law 796 = .ok (.iconst 1, 1) := by decide +kernel
theorem dL_law_797 : decode cL_law 797 = .ok (.iadd, 1) := by decide +kernel
theorem dL_law_798 : decode cL_law 798 = .ok (.iaload, 1) := by decide +kernel
theorem dL_law_799 : decode cL_law 799 = .ok (.aload_n 0, 1) := by decide +kernel
theorem dL_law_800 : decode cL_law 800 = .ok (.iload_n 3, 1) := by decide +kernel
theorem dL_law_801 : decode cL_law 801 = .ok (.iconst 2, 1) := by decide +kernel
theorem dL_law_802 : decode cL_law 802 = .ok (.iadd, 1) := by decide +kernel
theorem dL_law_803 : decode cL_law 803 = .ok (.iaload, 1) := by decide +kernel
theorem dL_law_804 : decode cL_law 804 = .ok (.aload_n 0, 1) := by decide +kernel
theorem dL_law_805 : decode cL_law 805 = .ok (.iload_n 3, 1) := by decide +kernel
theorem dL_law_806 : decode cL_law 806 = .ok (.iconst 3, 1) := by decide +kernel
theorem dL_law_807 : decode cL_law 807 = .ok (.iadd, 1) := by decide +kernel
theorem dL_law_808 : decode cL_law 808 = .ok (.iaload, 1) := by decide +kernel
theorem dL_law_809 : decode cL_law 809 = .ok (.aload_n 0, 1) := by decide +kernel
theorem dL_law_810 : decode cL_law 810 = .ok (.iload_n 3, 1) := by decide +kernel
theorem dL_law_811 : decode cL_law 811 = .ok (.iconst 4, 1) := by decide +kernel
theorem dL_law_812 : decode cL_law 812 = .ok (.iadd, 1) := by decide +kernel
theorem dL_law_813 : decode cL_law 813 = .ok (.iaload, 1) := by decide +kernel
theorem dL_law_814 : decode cL_law 814 = .ok (.aload_n 0, 1) := by decide +kernel
theorem dL_law_815 : decode cL_law 815 = .ok (.iload_n 3, 1) := by decide +kernel
theorem dL_law_816 : decode cL_law 816 = .ok (.iconst 5, 1) := by decide +kernel
theorem dL_law_817 : decode cL_law 817 = .ok (.iadd, 1) := by decide +kernel
theorem dL_law_818 : decode cL_law 818 = .ok (.iaload, 1) := by decide +kernel
theorem dL_law_819 : decode cL_law 819 = .ok (.invokevirtual 88, 3) := by decide +kernel
theorem dL_law_822 : decode cL_law 822 = .ok (.if_icmp .eq 215, 3) := by decide +kernel
theorem dL_law_825 : decode cL_law 825 = .ok (.iconst 0, 1) := by decide +kernel
theorem dL_law_826 : decode cL_law 826 = .ok (.ireturn, 1) := by decide +kernel
theorem dL_law_827 : decode cL_law 827 = .ok (.aload_n 1, 1) := by decide +kernel
theorem dL_law_828 : decode cL_law 828 = .ok (.aload_n 0, 1) := by decide +kernel
theorem dL_law_829 : decode cL_law 829 = .ok (.iload_n 3, 1) := by decide +kernel
theorem dL_law_830 : decode cL_law 830 = .ok (.iconst 1, 1) := by decide +kernel
theorem dL_law_831 : decode cL_law 831 = .ok (.iadd, 1) := by decide +kernel
theorem dL_law_832 : decode cL_law 832 = .ok (.iaload, 1) := by decide +kernel
theorem dL_law_833 : decode cL_law 833 = .ok (.aload_n 0, 1) := by decide +kernel
theorem dL_law_834 : decode cL_law 834 = .ok (.iload_n 3, 1) := by decide +kernel
theorem dL_law_835 : decode cL_law 835 = .ok (.iconst 2, 1) := by decide +kernel
theorem dL_law_836 : decode cL_law 836 = .ok (.iadd, 1) := by decide +kernel
theorem dL_law_837 : decode cL_law 837 = .ok (.iaload, 1) := by decide +kernel
theorem dL_law_838 : decode cL_law 838 = .ok (.aload_n 0, 1) := by decide +kernel
theorem dL_law_839 : decode cL_law 839 = .ok (.iload_n 3, 1) := by decide +kernel
theorem dL_law_840 : decode cL_law 840 = .ok (.iconst 3, 1) := by decide +kernel
theorem dL_law_841 : decode cL_law 841 = .ok (.iadd, 1) := by decide +kernel
theorem dL_law_842 : decode cL_law 842 = .ok (.iaload, 1) := by decide +kernel
theorem dL_law_843 : decode cL_law 843 = .ok (.aload_n 0, 1) := by decide +kernel
theorem dL_law_844 : decode cL_law 844 = .ok (.iload_n 3, 1) := by decide +kernel
theorem dL_law_845 : decode cL_law 845 = .ok (.iconst 4, 1) := by decide +kernel
theorem dL_law_846 : decode cL_law 846 = .ok (.iadd, 1) := by decide +kernel
theorem dL_law_847 : decode cL_law 847 = .ok (.iaload, 1) := by decide +kernel
theorem dL_law_848 : decode cL_law 848 = .ok (.aload_n 0, 1) := by decide +kernel
theorem dL_law_849 : decode cL_law 849 = .ok (.iload_n 3, 1) := by decide +kernel
theorem dL_law_850 : decode cL_law 850 = .ok (.iconst 5, 1) := by decide +kernel
theorem dL_law_851 : decode cL_law 851 = .ok (.iadd, 1) := by decide +kernel
theorem dL_law_852 : decode cL_law 852 = .ok (.iaload, 1) := by decide +kernel
theorem dL_law_853 : decode cL_law 853 = .ok (.aload_n 0, 1) := by decide +kernel
theorem dL_law_854 : decode cL_law 854 = .ok (.iload_n 3, 1) := by decide +kernel
theorem dL_law_855 : decode cL_law 855 = .ok (.bipush 6, 2) := by decide +kernel
theorem dL_law_857 : decode cL_law 857 = .ok (.iadd, 1) := by decide +kernel
theorem dL_law_858 : decode cL_law 858 = .ok (.iaload, 1) := by decide +kernel
theorem dL_law_859 : decode cL_law 859 = .ok (.invokevirtual 89, 3) := by decide +kernel
theorem dL_law_862 : decode cL_law 862 = .ok (.aload_n 2, 1) := by decide +kernel
theorem dL_law_863 : decode cL_law 863 = .ok (.aload_n 0, 1) := by decide +kernel
theorem dL_law_864 : decode cL_law 864 = .ok (.iload_n 3, 1) := by decide +kernel
theorem dL_law_865 : decode cL_law 865 = .ok (.iconst 1, 1) := by decide +kernel
theorem dL_law_866 : decode cL_law 866 = .ok (.iadd, 1) := by decide +kernel
theorem dL_law_867 : decode cL_law 867 = .ok (.iaload, 1) := by decide +kernel
theorem dL_law_868 : decode cL_law 868 = .ok (.aload_n 0, 1) := by decide +kernel
theorem dL_law_869 : decode cL_law 869 = .ok (.iload_n 3, 1) := by decide +kernel
theorem dL_law_870 : decode cL_law 870 = .ok (.iconst 2, 1) := by decide +kernel
theorem dL_law_871 : decode cL_law 871 = .ok (.iadd, 1) := by decide +kernel
theorem dL_law_872 : decode cL_law 872 = .ok (.iaload, 1) := by decide +kernel
theorem dL_law_873 : decode cL_law 873 = .ok (.aload_n 0, 1) := by decide +kernel
theorem dL_law_874 : decode cL_law 874 = .ok (.iload_n 3, 1) := by decide +kernel
theorem dL_law_875 : decode cL_law 875 = .ok (.iconst 3, 1) := by decide +kernel
theorem dL_law_876 : decode cL_law 876 = .ok (.iadd, 1) := by decide +kernel
theorem dL_law_877 : decode cL_law 877 = .ok (.iaload, 1) := by decide +kernel
theorem dL_law_878 : decode cL_law 878 = .ok (.aload_n 0, 1) := by decide +kernel
theorem dL_law_879 : decode cL_law 879 = .ok (.iload_n 3, 1) := by decide +kernel
theorem dL_law_880 : decode cL_law 880 = .ok (.iconst 4, 1) := by decide +kernel
theorem dL_law_881 : decode cL_law 881 = .ok (.iadd, 1) := by decide +kernel
theorem dL_law_882 : decode cL_law 882 = .ok (.iaload, 1) := by decide +kernel
theorem dL_law_883 : decode cL_law 883 = .ok (.aload_n 0, 1) := by decide +kernel
theorem dL_law_884 : decode cL_law 884 = .ok (.iload_n 3, 1) := by decide +kernel
theorem dL_law_885 : decode cL_law 885 = .ok (.iconst 5, 1) := by decide +kernel
theorem dL_law_886 : decode cL_law 886 = .ok (.iadd, 1) := by decide +kernel
theorem dL_law_887 : decode cL_law 887 = .ok (.iaload, 1) := by decide +kernel
theorem dL_law_888 : decode cL_law 888 = .ok (.aload_n 0, 1) := by decide +kernel
theorem dL_law_889 : decode cL_law 889 = .ok (.iload_n 3, 1) := by decide +kernel
theorem dL_law_890 : decode cL_law 890 = .ok (.bipush 6, 2) := by decide +kernel
theorem dL_law_892 : decode cL_law 892 = .ok (.iadd, 1) := by decide +kernel
theorem dL_law_893 : decode cL_law 893 = .ok (.iaload, 1) := by decide +kernel
theorem dL_law_894 : decode cL_law 894 = .ok (.invokevirtual 93, 3) := by decide +kernel
theorem dL_law_897 : decode cL_law 897 = .ok (.if_icmp .eq 140, 3) := by decide +kernel
theorem dL_law_900 : decode cL_law 900 = .ok (.iconst 0, 1) := by decide +kernel
theorem dL_law_901 : decode cL_law 901 = .ok (.ireturn, 1) := by decide +kernel
theorem dL_law_902 : decode cL_law 902 = .ok (.aload_n 1, 1) := by decide +kernel
theorem dL_law_903 : decode cL_law 903 = .ok (.aload_n 0, 1) := by decide +kernel
theorem dL_law_904 : decode cL_law 904 = .ok (.iload_n 3, 1) := by decide +kernel
theorem dL_law_905 : decode cL_law 905 = .ok (.iconst 1, 1) := by decide +kernel
theorem dL_law_906 : decode cL_law 906 = .ok (.iadd, 1) := by decide +kernel
theorem dL_law_907 : decode cL_law 907 = .ok (.iaload, 1) := by decide +kernel
theorem dL_law_908 : decode cL_law 908 = .ok (.aload_n 0, 1) := by decide +kernel
theorem dL_law_909 : decode cL_law 909 = .ok (.iload_n 3, 1) := by decide +kernel
theorem dL_law_910 : decode cL_law 910 = .ok (.iconst 2, 1) := by decide +kernel
theorem dL_law_911 : decode cL_law 911 = .ok (.iadd, 1) := by decide +kernel
theorem dL_law_912 : decode cL_law 912 = .ok (.iaload, 1) := by decide +kernel
theorem dL_law_913 : decode cL_law 913 = .ok (.aload_n 0, 1) := by decide +kernel
theorem dL_law_914 : decode cL_law 914 = .ok (.iload_n 3, 1) := by decide +kernel
theorem dL_law_915 : decode cL_law 915 = .ok (.iconst 3, 1) := by decide +kernel
theorem dL_law_916 : decode cL_law 916 = .ok (.iadd, 1) := by decide +kernel
theorem dL_law_917 : decode cL_law 917 = .ok (.iaload, 1) := by decide +kernel
theorem dL_law_918 : decode cL_law 918 = .ok (.invokevirtual 94, 3) := by decide +kernel
theorem dL_law_921 : decode cL_law 921 = .ok (.aload_n 2, 1) := by decide +kernel
theorem dL_law_922 : decode cL_law 922 = .ok (.aload_n 0, 1) := by decide +kernel
theorem dL_law_923 : decode cL_law 923 = .ok (.iload_n 3, 1) := by decide +kernel
theorem dL_law_924 : decode cL_law 924 = .ok (.iconst 1, 1) := by decide +kernel
theorem dL_law_925 : decode cL_law 925 = .ok (.iadd, 1) := by decide +kernel
theorem dL_law_926 : decode cL_law 926 = .ok (.iaload, 1) := by decide +kernel
theorem dL_law_927 : decode cL_law 927 = .ok (.aload_n 0, 1) := by decide +kernel
theorem dL_law_928 : decode cL_law 928 = .ok (.iload_n 3, 1) := by decide +kernel
theorem dL_law_929 : decode cL_law 929 = .ok (.iconst 2, 1) := by decide +kernel
theorem dL_law_930 : decode cL_law 930 = .ok (.iadd, 1) := by decide +kernel
theorem dL_law_931 : decode cL_law 931 = .ok (.iaload, 1) := by decide +kernel
theorem dL_law_932 : decode cL_law 932 = .ok (.aload_n 0, 1) := by decide +kernel
theorem dL_law_933 : decode cL_law 933 = .ok (.iload_n 3, 1) := by decide +kernel
theorem dL_law_934 : decode cL_law 934 = .ok (.iconst 3, 1) := by decide +kernel
theorem dL_law_935 : decode cL_law 935 = .ok (.iadd, 1) := by decide +kernel
theorem dL_law_936 : decode cL_law 936 = .ok (.iaload, 1) := by decide +kernel
theorem dL_law_937 : decode cL_law 937 = .ok (.invokevirtual 97, 3) := by decide +kernel
theorem dL_law_940 : decode cL_law 940 = .ok (.if_icmp .eq 97, 3) := by decide +kernel
theorem dL_law_943 : decode cL_law 943 = .ok (.iconst 0, 1) := by decide +kernel
theorem dL_law_944 : decode cL_law 944 = .ok (.ireturn, 1) := by decide +kernel
theorem dL_law_945 : decode cL_law 945 = .ok (.aload_n 1, 1) := by decide +kernel
theorem dL_law_946 : decode cL_law 946 = .ok (.aload_n 0, 1) := by decide +kernel
theorem dL_law_947 : decode cL_law 947 = .ok (.iload_n 3, 1) := by decide +kernel
theorem dL_law_948 : decode cL_law 948 = .ok (.iconst 1, 1) := by decide +kernel
theorem dL_law_949 : decode cL_law 949 = .ok (.iadd, 1) := by decide +kernel
theorem dL_law_950 : decode cL_law 950 = .ok (.iaload, 1) := by decide +kernel
theorem dL_law_951 : decode cL_law 951 = .ok (.aload_n 0, 1) := by decide +kernel
theorem dL_law_952 : decode cL_law 952 = .ok (.iload_n 3, 1) := by decide +kernel
theorem dL_law_953 : decode cL_law 953 = .ok (.iconst 2, 1) := by decide +kernel
theorem dL_law_954 : decode cL_law 954 = .ok (.iadd, 1) := by decide +kernel
theorem dL_law_955 : decode cL_law 955 = .ok (.iaload, 1) := by decide +kernel
theorem dL_law_956 : decode cL_law 956 = .ok (.ifCond .eq 7, 3) := by decide +kernel
theorem dL_law_959 : decode cL_law 959 = .ok (.iconst 1, 1) := by decide +kernel
theorem dL_law_960 : decode cL_law 960 = .ok (.goto 4, 3) := by decide +kernel
theorem dL_law_963 : decode cL_law 963 = .ok (.iconst 0, 1) := by decide +kernel
theorem dL_law_964 : decode cL_law 964 = .ok (.aload_n 0, 1) := by decide +kernel
theorem dL_law_965 : decode cL_law 965 = .ok (.iload_n 3, 1) := by decide +kernel
theorem dL_law_966 : decode cL_law 966 = .ok (.iconst 3, 1) := by decide +kernel
theorem dL_law_967 : decode cL_law 967 = .ok (.iadd, 1) := by decide +kernel
theorem dL_law_968 : decode cL_law 968 = .ok (.iaload, 1) := by decide +kernel
theorem dL_law_969 : decode cL_law 969 = .ok (.aload_n 0, 1) := by decide +kernel
theorem dL_law_970 : decode cL_law 970 = .ok (.iload_n 3, 1) := by decide +kernel
theorem dL_law_971 : decode cL_law 971 = .ok (.iconst 4, 1) := by decide +kernel
theorem dL_law_972 : decode cL_law 972 = .ok (.iadd, 1) := by decide +kernel
theorem dL_law_973 : decode cL_law 973 = .ok (.iaload, 1) := by decide +kernel
theorem dL_law_974 : decode cL_law 974 = .ok (.invokevirtual 98, 3) := by decide +kernel
theorem dL_law_977 : decode cL_law 977 = .ok (.aload_n 2, 1) := by decide +kernel
theorem dL_law_978 : decode cL_law 978 = .ok (.aload_n 0, 1) := by decide +kernel
theorem dL_law_979 : decode cL_law 979 = .ok (.iload_n 3, 1) := by decide +kernel
theorem dL_law_980 : decode cL_law 980 = .ok (.iconst 1, 1) := by decide +kernel
theorem dL_law_981 : decode cL_law 981 = .ok (.iadd, 1) := by decide +kernel
theorem dL_law_982 : decode cL_law 982 = .ok (.iaload, 1) := by decide +kernel
theorem dL_law_983 : decode cL_law 983 = .ok (.aload_n 0, 1) := by decide +kernel
theorem dL_law_984 : decode cL_law 984 = .ok (.iload_n 3, 1) := by decide +kernel
theorem dL_law_985 : decode cL_law 985 = .ok (.iconst 2, 1) := by decide +kernel
theorem dL_law_986 : decode cL_law 986 = .ok (.iadd, 1) := by decide +kernel
theorem dL_law_987 : decode cL_law 987 = .ok (.iaload, 1) := by decide +kernel
theorem dL_law_988 : decode cL_law 988 = .ok (.ifCond .eq 7, 3) := by decide +kernel
theorem dL_law_991 : decode cL_law 991 = .ok (.iconst 1, 1) := by decide +kernel
theorem dL_law_992 : decode cL_law 992 = .ok (.goto 4, 3) := by decide +kernel
theorem dL_law_995 : decode cL_law 995 = .ok (.iconst 0, 1) := by decide +kernel
theorem dL_law_996 : decode cL_law 996 = .ok (.aload_n 0, 1) := by decide +kernel
theorem dL_law_997 : decode cL_law 997 = .ok (.iload_n 3, 1) := by decide +kernel
theorem dL_law_998 : decode cL_law 998 = .ok (.iconst 3, 1) := by decide +kernel
theorem dL_law_999 : decode cL_law 999 = .ok (.iadd, 1) := by decide +kernel
theorem dL_law_1000 : decode cL_law 1000 = .ok (.iaload, 1) := by decide +kernel
theorem dL_law_1001 : decode cL_law 1001 = .ok (.aload_n 0, 1) := by decide +kernel
theorem dL_law_1002 : decode cL_law 1002 = .ok (.iload_n 3, 1) := by decide +kernel
theorem dL_law_1003 : decode cL_law 1003 = .ok (.iconst 4, 1) := by decide +kernel
theorem dL_law_1004 : decode cL_law 1004 = .ok (.iadd, 1) := by decide +kernel
theorem dL_law_1005 : decode cL_law 1005 = .ok (.iaload, 1) := by decide +kernel
theorem dL_law_1006 : decode cL_law 1006 = .ok (.invokevirtual 102, 3) := by decide +kernel
theorem dL_law_1009 : decode cL_law 1009 = .ok (.if_icmp .eq 28, 3) := by decide +kernel
theorem dL_law_1012 : decode cL_law 1012 = .ok (.iconst 0, 1) := by decide +kernel
theorem dL_law_1013 : decode cL_law 1013 = .ok (.ireturn, 1) := by decide +kernel
theorem dL_law_1014 : decode cL_law 1014 = .ok (.aload_n 1, 1) := by decide +kernel
theorem dL_law_1015 : decode cL_law 1015 = .ok (.aload_n 0, 1) := by decide +kernel
theorem dL_law_1016 : decode cL_law 1016 = .ok (.iload_n 3, 1) := by decide +kernel
theorem dL_law_1017 : decode cL_law 1017 = .ok (.iconst 1, 1) := by decide +kernel
theorem dL_law_1018 : decode cL_law 1018 = .ok (.iadd, 1) := by decide +kernel
theorem dL_law_1019 : decode cL_law 1019 = .ok (.iaload, 1) := by decide +kernel
theorem dL_law_1020 : decode cL_law 1020 = .ok (.invokevirtual 103, 3) := by decide +kernel
theorem dL_law_1023 : decode cL_law 1023 = .ok (.aload_n 2, 1) := by decide +kernel
theorem dL_law_1024 : decode cL_law 1024 = .ok (.aload_n 0, 1) := by decide +kernel
theorem dL_law_1025 : decode cL_law 1025 = .ok (.iload_n 3, 1) := by decide +kernel
theorem dL_law_1026 : decode cL_law 1026 = .ok (.iconst 1, 1) := by decide +kernel
theorem dL_law_1027 : decode cL_law 1027 = .ok (.iadd, 1) := by decide +kernel
theorem dL_law_1028 : decode cL_law 1028 = .ok (.iaload, 1) := by decide +kernel
theorem dL_law_1029 : decode cL_law 1029 = .ok (.invokevirtual 106, 3) := by decide +kernel
theorem dL_law_1032 : decode cL_law 1032 = .ok (.if_icmp .eq 5, 3) := by decide +kernel
theorem dL_law_1035 : decode cL_law 1035 = .ok (.iconst 0, 1) := by decide +kernel
theorem dL_law_1036 : decode cL_law 1036 = .ok (.ireturn, 1) := by decide +kernel
theorem dL_law_1037 : decode cL_law 1037 = .ok (.iinc 3 9, 3) := by decide +kernel
theorem dL_law_1040 : decode cL_law 1040 = .ok (.goto (-1022), 3) := by decide +kernel
theorem dL_law_1043 : decode cL_law 1043 = .ok (.iconst 1, 1) := by decide +kernel
theorem dL_law_1044 : decode cL_law 1044 = .ok (.ireturn, 1) := by decide +kernel
end
section
-- THE LIGHT JUDGEMENT: a pure heap of numbered cells, and J, the machine's walk over it
abbrev JH : Type := (Nat → Nat → Int32) × (Nat → Nat → Int64) × (Nat → Nat → Option Nat) × List (Nat × Nat)
def gi (h : JH) (o k : Nat) : Int32 := h.1 o k
def gl (h : JH) (o k : Nat) : Int64 := h.2.1 o k
def gr (h : JH) (o k : Nat) : Option Nat := h.2.2.1 o k
def kd (h : JH) : List (Nat × Nat) := h.2.2.2
def si (h : JH) (o k : Nat) (v : Int32) : JH := (fun a b => if a = o ∧ b = k then v else h.1 a b, h.2)
def sl (h : JH) (o k : Nat) (v : Int64) : JH := (h.1, fun a b => if a = o ∧ b = k then v else h.2.1 a b, h.2.2)
def sr (h : JH) (o k : Nat) (v : Option Nat) : JH := (h.1, h.2.1, fun a b => if a = o ∧ b = k then v else h.2.2.1 a b, h.2.2.2)
/-- a new cell of zeros at the end -/
def al (h : JH) (q : Nat × Nat) : JH := (fun a b => if a = h.2.2.2.length then 0 else h.1 a b, fun a b => if a = h.2.2.2.length then 0 else h.2.1 a b, fun a b => if a = h.2.2.2.length then none else h.2.2.1 a b, h.2.2.2 ++ [q])
/-- what is fixed in a run: where the cells begin, the tables' numbers, the addresses that lie before, the script -/
abbrev JX : Type := Nat × (Nat → ClassId) × (Nat → Nat → Nat) × (Nat → ClassId) × (Nat → Nat) × (Nat → Nat) × Nat × (Nat → Int32)
abbrev xB (x : JX) : Nat := x.1
abbrev xC (x : JX) : Nat → ClassId := x.2.1
abbrev xI (x : JX) : Nat → Nat → Nat := x.2.2.1
abbrev xA (x : JX) : Nat → ClassId := x.2.2.2.1
abbrev xE (x : JX) : Nat → Nat := x.2.2.2.2.1
abbrev xV (x : JX) : Nat → Nat := x.2.2.2.2.2.1
abbrev xL (x : JX) : Nat := x.2.2.2.2.2.2.1
abbrev xS (x : JX) : Nat → Int32 := x.2.2.2.2.2.2.2
def mr (x : JX) (r : Nat) : Nat := if r < 1000000000 then xB x + r else xE x (r - 1000000000)
def mv (x : JX) (v : Value) : Value := match v with
  | .ref r => .ref (mr x r)
  | w => w
theorem mv_cat (x : JX) (v : Value) : (mv x v).category = v.category := by cases v <;> rfl
theorem mv_cats (x : JX) (st : List Value) : ((st.map (mv x)).map fun v => v.category).sum = (st.map fun v => v.category).sum := by
  induction st with
  | nil => rfl
  | cons a t ih => simp only [List.map_cons, List.sum_cons, mv_cat, ih]
def jsort (d : String) : Nat := if d = "I" then 0 else if d = "Z" then 0 else if d = "J" then 1 else 2
/-- of which sort the slot j of a cell of kind q is: 0 int, 1 long, 2 reference -/
def ssort (q j : Nat) : Nat := if q < 50 then (match vwCl[q]? with | some r => jsort (r.2.1 j).2.2.1 | none => 0) else if q = 51 then 1 else if q < 53 then 0 else 2
def jval (x : JX) (h : JH) (s k j : Nat) : Value := match s with
  | 0 => .int (gi h k j)
  | 1 => .long (gl h k j)
  | _ => mv x (va_rf (gr h k j))
def jat (x : JX) (h : JH) (k : Nat) (q : Nat × Nat) (H : Heap) : Prop :=
  if q.1 < 50 then (∃ r : vw_C, vwCl[q.1]? = some r ∧ r.2.2 = q.2) ∧ t_OB (xB x + k) (xC x q.1) q.2 (xI x q.1) H (fun j => jval x h (ssort q.1 j) k j)
  else H[xB x + k]? = some (arrV (xA x q.1) q.2 (fun j => jval x h (ssort q.1 0) k j))
/-- the heap H holds the cells of h, and ends with them -/
def JC (x : JX) (h : JH) (H : Heap) : Prop := H.size = xB x + (kd h).length ∧ (kd h).length < 1000000000 ∧ ∀ (k : Nat) (q : Nat × Nat), (kd h)[k]? = some q → jat x h k q H
def jtys (x : JX) : List (ClassId × FieldType) := [(xA x 50, .int), (xA x 51, .long), (xA x 52, .boolean), (xA x 53, .object RX0), (xA x 54, .object RX4)]
def jnest : Cond → Bool
  | .fieldLinkNest _ _ _ _ _ _ => true
  | .methodLinkNest _ _ _ _ => true
  | _ => false
def TBg : List Cond := lw_tbl.filter goodWord
abbrev xF (x : JX) : Nat → Prop := fun q => xB x ≤ q
/-- the strings of the reader of recipes: number in the pool, text, which one; their lengths and bytes -/
def strT : List (Nat × String × Nat) := [(107, "else", 0), (125, "volt", 1), (127, "pulse", 2), (129, "verify", 3), (131, "try", 4), (133, "ok", 5)]
def strL : List Nat := [4, 4, 5, 6, 3, 2]
def strB : List (List Int32) := [[101, 108, 115, 101], [118, 111, 108, 116], [112, 117, 108, 115, 101], [118, 101, 114, 105, 102, 121], [116, 114, 121], [111, 107]]
def JS (x : JX) (s : State) : Prop := (∀ q ∈ strT, vk_R RX5 q.1 q.2.1 (xE x (q.2.2 + 1)) s) ∧ vk_S 6 strL strB (fun i => xE x (i + 1)) (xV x) (xF x) s s.heap ∧ va_Z "java/lang/String" "COMPACT_STRINGS" "Z" (.int 1) (xF x) s s.heap
/-- what the tables say, and what lies before the cells -/
def JT (x : JX) (s : State) : Prop := va_K (xC x, xI x) vwCl (jtys x) s ∧ (∀ w ∈ lw_tbl, jnest w = true → va_Nw w s) ∧ va_AO RX0 s ∧ va_AO RX4 s ∧ xB x ≤ s.heap.size ∧ va_X (xE x 0) (xL x) (xS x) s s.heap ∧ xE x 0 < xB x ∧ JS x s
def JQc (x : JX) (Q : Option Value → JH → Prop) : Array Value → State → Outcome → State → Prop := fun _ st o t => ∃ (v : Option Value) (h : JH), o = .returned (v.map (mv x)) ∧ Q v h ∧ JC x h t.heap ∧ va_F (xF x) st t
def JPc (x : JX) (as : List Value) (h : JH) : Array Value → State → Prop := fun a U => a = (as.map (mv x)).toArray ∧ JT x U ∧ JC x h U.heap
def JL (x : JX) (lsA : Array Slot) (nL : Nat) (ls : List (Option Value)) : Prop := lsA.size = nL ∧ lv_wf lsA ∧ ∀ (i : Nat) (v : Value), ls[i]? = some (some v) → lsA[i]? = some (.val (mv x v))
abbrev jroom (d k n : Nat) : Room := { frames := d, cells := k, slots := n, locals := 60 * d }
/-- a contract: from the heap h, with these arguments -/
def JM (x : JX) (y : MethodName) (cc : ByteArray) (nL : Nat) (rt : Option FieldType) (d k n : Nat) (as : List Value) (h : JH) (Q : Option Value → JH → Prop) : Prop :=
  ∀ l : Launch, Met l y (Cond.code y cc nL rt :: TBg) (jroom d k n) (JPc x as h) (JQc x Q) k n (xF x)
def JE (x : JX) (y : MethodName) (cc : ByteArray) (nL : Nat) (rt : Option FieldType) (d : Nat) (p : Program) (R : Room) (s : State) (m : MethodId) (args : Array Value) (meth : Method) (c : Code) (mc ms : Nat) : Prop :=
  p.tables.exec = Jvm.exec ∧ c.code = cc ∧ c.maxLocals = nL ∧ meth.sig.returnType = rt ∧ meth.locks = false ∧ meth.name = y.name ∧ s.vm.findClass y.cls = some m.cls ∧ (∀ w ∈ TBg, w.before args s = true) ∧ d ≤ R.frames ∧ 60 * d ≤ R.locals ∧ mc ≤ R.cells ∧ ms ≤ R.slots ∧ JT x s
def J (x : JX) (y : MethodName) (cc : ByteArray) (nL : Nat) (rt : Option FieldType) (d ck cs : Nat) (Q : Option Value → JH → Prop) (pc : Nat) (ls : List (Option Value)) (st : List Value) (h : JH) : Prop :=
  ∀ (p : Program) (l : Launch) (e : Env) (R : Room) (s : State) (m : MethodId) (args : Array Value) (below : List Frame) (meth : Method) (c : Code) (H : Heap) (locs : List Loc) (cells slots mc ms : Nat) (lsA : Array Slot),
    JE x y cc nL rt d p R s m args meth c mc ms → cells + ck ≤ mc → slots + cs ≤ ms → va_S (xF x) s.heap H locs → JC x h H → JL x lsA nL ls →
    W p l e R s m args below meth c H locs cells slots (MQ below (JQc x Q) args s mc ms (xF x)) (F0 m pc lsA (st.map (mv x)))
theorem tb_mem {w : Cond} (i : Nat) (h : lw_tbl[i]? = some w) (hg : goodWord w = true) : w ∈ TBg := List.mem_filter.mpr ⟨List.mem_of_getElem? h, hg⟩
theorem tb_good {ws : List Cond} (h : ∀ w ∈ ws, w ∈ TBg) : GoodIn TBg ws := fun w hw => ⟨h w hw, good_of_word (List.mem_filter.mp (h w hw)).2⟩
-- the static part moves on with the tables
theorem JT.next {x : JX} {s U : State} (h : JT x s) (hW : s.WarmedH U.vm) (hz : xB x ≤ U.heap.size) (hq : ∀ q : Nat, q < s.heap.size → ¬ xF x q → U.heap[q]? = s.heap[q]?) : JT x U := by
  obtain ⟨hK, hN, hA0, hA4, hb, hX, hx0, hs1, hs2, hs3⟩ := h
  refine ⟨va_K.moved hW.alike hK, fun w hw hn => ?_, va_AO.moved hW.alike hA0, va_AO.moved hW.alike hA4, hz, ?_, hx0, fun q h => (hs1 q h).warm hW, vk_S.moved hW.alike (hs2.kept hq), va_Z.moved hW.alike (hs3.kept hq)⟩
  · have h0 := hN w hw hn
    cases w <;> first | exact va_Nw.warmF hW h0 | exact va_Nw.warmM hW h0 | (exact absurd hn (by simp [jnest]))
  · exact va_X.moved hW.alike (hX.kept (hq _ (Nat.lt_of_lt_of_le hx0 hb) (Nat.not_le.mpr hx0)))
theorem JL.at {x : JX} {lsA : Array Slot} {nL : Nat} {ls : List (Option Value)} (h : JL x lsA nL ls) {i : Nat} {v : Value} (hi : ls[i]? = some (some v)) : lsA[i]? = some (.val (mv x v)) := h.2.2 i v hi
/-- no long lies just below i -/
def nolong (ls : List (Option Value)) (i : Nat) : Bool := match i with
  | 0 => true
  | j + 1 => match ls[j]? with
    | some (some (.long _)) => false
    | some (some (.double _)) => false
    | _ => true
theorem nolong_of {ls : List (Option Value)} {j : Nat} {v : Value} (h : nolong ls (j + 1) = true) (hv : ls[j]? = some (some v)) : ¬ v.category = 2 := by
  simp only [nolong] at h
  rw [hv] at h
  cases v <;> first | (simp [Value.category]; done) | (simp at h; done)
theorem JL.pairs {x : JX} {lsA : Array Slot} {nL : Nat} {ls : List (Option Value)} (h : JL x lsA nL ls) : ∃ l : List (Nat × Value), lv_has lsA nL l ∧ ∀ (j : Nat) (w : Value), ls[j]? = some (some w) → (j, mv x w) ∈ l := by
  refine ⟨(List.range ls.length).filterMap (fun j => (ls.getD j none).map (fun w => (j, mv x w))), ⟨h.1, h.2.1, fun q hq => ?_⟩, fun j w hj => ?_⟩
  · obtain ⟨j, hj, hj2⟩ := List.mem_filterMap.mp hq
    have hjl : j < ls.length := List.mem_range.mp hj
    cases hv : ls.getD j none with
    | none => rw [hv] at hj2; cases hj2
    | some w =>
      rw [hv] at hj2
      cases hj2
      refine h.2.2 j w ?_
      rw [List.getD_eq_getElem?_getD] at hv
      cases h2 : ls[j]? with
      | none => rw [h2] at hv; cases hv
      | some o => rw [h2] at hv; simp at hv; rw [hv]
  · refine List.mem_filterMap.mpr ⟨j, List.mem_range.mpr (List.getElem?_eq_some_iff.mp hj).1, ?_⟩
    rw [List.getD_eq_getElem?_getD, hj]
    rfl
theorem JL.of1 {x : JX} {ls' : Array Slot} {nL i : Nat} {ls : List (Option Value)} {v : Value} {l : List (Nat × Value)} (e2 : lv_has ls' nL ((i, mv x v) :: l.filter (fun q => !(q.1 == i) && !(q.1 + 1 == i && q.2.category == 2)))) (hm : ∀ (j : Nat) (w : Value), ls[j]? = some (some w) → (j, mv x w) ∈ l) (hn : nolong ls i = true) (hll : i < ls.length) : JL x ls' nL (ls.set i (some v)) := by
  refine ⟨e2.1, e2.2.1, fun j w hj => ?_⟩
  by_cases hji : j = i
  · subst hji
    rw [List.getElem?_set_self hll] at hj
    cases hj
    exact e2.2.2 (j, mv x v) List.mem_cons_self
  · rw [List.getElem?_set_ne (Ne.symm hji)] at hj
    refine e2.2.2 (j, mv x w) (List.mem_cons_of_mem _ (List.mem_filter.mpr ⟨hm j w hj, ?_⟩))
    have h2 : ¬ (j + 1 = i ∧ (mv x w).category = 2) := by
      rintro ⟨a, b⟩
      subst a
      rw [mv_cat] at b
      exact nolong_of hn hj b
    simp [hji]
    by_cases a : j + 1 = i
    · exact Or.inr (fun b => h2 ⟨a, b⟩)
    · exact Or.inl a
theorem JL.of2 {x : JX} {ls' : Array Slot} {nL i : Nat} {ls : List (Option Value)} {v : Value} {l : List (Nat × Value)} (e2 : lv_has ls' nL ((i, mv x v) :: l.filter (fun q => !(q.1 == i) && (!(q.1 == i + 1) && !(q.1 + 1 == i && q.2.category == 2))))) (hm : ∀ (j : Nat) (w : Value), ls[j]? = some (some w) → (j, mv x w) ∈ l) (hn : nolong ls i = true) (hll : i + 1 < ls.length) : JL x ls' nL ((ls.set i (some v)).set (i + 1) none) := by
  refine ⟨e2.1, e2.2.1, fun j w hj => ?_⟩
  have hji1 : ¬ j = i + 1 := by
    intro a
    subst a
    rw [List.getElem?_set_self (by rw [List.length_set]; exact hll)] at hj
    cases hj
  rw [List.getElem?_set_ne (Ne.symm hji1)] at hj
  by_cases hji : j = i
  · subst hji
    rw [List.getElem?_set_self (by omega)] at hj
    cases hj
    exact e2.2.2 (j, mv x v) List.mem_cons_self
  · rw [List.getElem?_set_ne (Ne.symm hji)] at hj
    refine e2.2.2 (j, mv x w) (List.mem_cons_of_mem _ (List.mem_filter.mpr ⟨hm j w hj, ?_⟩))
    have h2 : ¬ (j + 1 = i ∧ (mv x w).category = 2) := by
      rintro ⟨a, b⟩
      subst a
      rw [mv_cat] at b
      exact nolong_of hn hj b
    simp [hji, hji1]
    by_cases a : j + 1 = i
    · exact Or.inr (fun b => h2 ⟨a, b⟩)
    · exact Or.inl a
-- the heap's rows
theorem kd_si (h : JH) (o k : Nat) (v : Int32) : kd (si h o k v) = kd h := rfl
theorem kd_sl (h : JH) (o k : Nat) (v : Int64) : kd (sl h o k v) = kd h := rfl
theorem kd_sr (h : JH) (o k : Nat) (v : Option Nat) : kd (sr h o k v) = kd h := rfl
theorem gi_si (h : JH) (o k : Nat) (v : Int32) (a b : Nat) : gi (si h o k v) a b = if a = o ∧ b = k then v else gi h a b := rfl
theorem gi_sl (h : JH) (o k : Nat) (v : Int64) (a b : Nat) : gi (sl h o k v) a b = gi h a b := rfl
theorem gi_sr (h : JH) (o k : Nat) (v : Option Nat) (a b : Nat) : gi (sr h o k v) a b = gi h a b := rfl
theorem gl_si (h : JH) (o k : Nat) (v : Int32) (a b : Nat) : gl (si h o k v) a b = gl h a b := rfl
theorem gl_sl (h : JH) (o k : Nat) (v : Int64) (a b : Nat) : gl (sl h o k v) a b = if a = o ∧ b = k then v else gl h a b := rfl
theorem gl_sr (h : JH) (o k : Nat) (v : Option Nat) (a b : Nat) : gl (sr h o k v) a b = gl h a b := rfl
theorem gr_si (h : JH) (o k : Nat) (v : Int32) (a b : Nat) : gr (si h o k v) a b = gr h a b := rfl
theorem gr_sl (h : JH) (o k : Nat) (v : Int64) (a b : Nat) : gr (sl h o k v) a b = gr h a b := rfl
theorem gr_sr (h : JH) (o k : Nat) (v : Option Nat) (a b : Nat) : gr (sr h o k v) a b = if a = o ∧ b = k then v else gr h a b := rfl
theorem jat.kept {x : JX} {h h' : JH} {k : Nat} {q : Nat × Nat} {H H' : Heap} (hj : jat x h k q H) (hq : H'[xB x + k]? = H[xB x + k]?) (hv : ∀ s j, jval x h' s k j = jval x h s k j) : jat x h' k q H' := by
  unfold jat at hj ⊢
  split
  · rename_i h50
    rw [if_pos h50] at hj
    exact ⟨hj.1, (hj.2.kept hq).to (fun j _ => (hv _ j).symm)⟩
  · rename_i h50
    rw [if_neg h50] at hj
    rw [hq, hj]
    congr 2
    funext j
    exact (hv _ j).symm
/-- one cell is written -/
theorem JC.set {x : JX} {h h' : JH} {H H' : Heap} (hC : JC x h H) {o : Nat} {q : Nat × Nat} (ho : (kd h)[o]? = some q) (hk : kd h' = kd h) (hz : H'.size = H.size) (hn : jat x h' o q H') (oq : ∀ a : Nat, a ≠ xB x + o → H'[a]? = H[a]?) (hv : ∀ k, k ≠ o → ∀ s j, jval x h' s k j = jval x h s k j) : JC x h' H' := by
  refine ⟨by rw [hz, hk]; exact hC.1, by rw [hk]; exact hC.2.1, fun k q' hq' => ?_⟩
  rw [hk] at hq'
  by_cases hko : k = o
  · subst hko
    cases ho.symm.trans hq'
    exact hn
  · exact (hC.2.2 k q' hq').kept (oq _ (by omega)) (hv k hko)
theorem jval_si {x : JX} {h : JH} {o j : Nat} {v : Int32} {s k i : Nat} : jval x (si h o j v) s k i = if s = 0 ∧ k = o ∧ i = j then .int v else jval x h s k i := by
  match s with
  | 0 =>
    show Value.int (if k = o ∧ i = j then v else gi h k i) = _
    by_cases c : k = o ∧ i = j
    · rw [if_pos c, if_pos ⟨rfl, c⟩]
    · rw [if_neg c, if_neg (fun a => c a.2)]; rfl
  | 1 => rw [if_neg (fun a => by cases a.1)]; rfl
  | n + 2 => rw [if_neg (fun a => by cases a.1)]; rfl
theorem jval_sl {x : JX} {h : JH} {o j : Nat} {v : Int64} {s k i : Nat} : jval x (sl h o j v) s k i = if s = 1 ∧ k = o ∧ i = j then .long v else jval x h s k i := by
  match s with
  | 1 =>
    show Value.long (if k = o ∧ i = j then v else gl h k i) = _
    by_cases c : k = o ∧ i = j
    · rw [if_pos c, if_pos ⟨rfl, c⟩]
    · rw [if_neg c, if_neg (fun a => c a.2)]; rfl
  | 0 => rw [if_neg (fun a => by cases a.1)]; rfl
  | n + 2 => rw [if_neg (fun a => by cases a.1)]; rfl
theorem jval_sr {x : JX} {h : JH} {o j : Nat} {v : Option Nat} {s k i : Nat} : jval x (sr h o j v) s k i = if 2 ≤ s ∧ k = o ∧ i = j then mv x (va_rf v) else jval x h s k i := by
  match s with
  | 0 => rw [if_neg (fun a => by omega)]; rfl
  | 1 => rw [if_neg (fun a => by omega)]; rfl
  | n + 2 =>
    show mv x (va_rf (if k = o ∧ i = j then v else gr h k i)) = _
    by_cases c : k = o ∧ i = j
    · rw [if_pos c, if_pos ⟨by omega, c⟩]
    · rw [if_neg c, if_neg (fun a => c a.2)]; rfl
/-- an array's cell -/
theorem jat_arr {x : JX} {h : JH} {k : Nat} {a n : Nat} {H : Heap} (ha : 50 ≤ a) (hj : jat x h k (a, n) H) : H[xB x + k]? = some (arrV (xA x a) n (fun j => jval x h (ssort a 0) k j)) := by
  unfold jat at hj
  rw [if_neg (Nat.not_lt.mpr ha)] at hj
  exact hj
theorem jat_arr' {x : JX} {h : JH} {k : Nat} {a n : Nat} {H : Heap} (ha : 50 ≤ a) (hj : H[xB x + k]? = some (arrV (xA x a) n (fun j => jval x h (ssort a 0) k j))) : jat x h k (a, n) H := by
  unfold jat
  rw [if_neg (Nat.not_lt.mpr ha)]
  exact hj
theorem mr_lt {x : JX} {r : Nat} (h : r < 1000000000) : mr x r = xB x + r := by unfold mr; rw [if_pos h]
theorem JC.lt {x : JX} {h : JH} {H : Heap} (hC : JC x h H) {o : Nat} {q : Nat × Nat} (ho : (kd h)[o]? = some q) : o < 1000000000 := Nat.lt_trans (List.getElem?_eq_some_iff.mp ho).1 hC.2.1
theorem JC.mrE {x : JX} {h : JH} {H : Heap} (hC : JC x h H) {o : Nat} {q : Nat × Nat} (ho : (kd h)[o]? = some q) : mr x o = xB x + o := mr_lt (hC.lt ho)
theorem mv_ref {x : JX} {h : JH} {H : Heap} (hC : JC x h H) {o : Nat} {q : Nat × Nat} (ho : (kd h)[o]? = some q) : mv x (.ref o) = .ref (xB x + o) := by
  show Value.ref (mr x o) = _
  rw [hC.mrE ho]
end
section
section JR
variable {x : JX} {y : MethodName} {cc : ByteArray} {nL : Nat} {rt : Option FieldType} {d ck cs : Nat} {Q : Option Value → JH → Prop} {pc pq : Nat} {ls : List (Option Value)} {st : List Value} {h : JH}
theorem J_iconst {n : Int} {v : Int32} (hd : decode cc pc = .ok (.iconst n, 1)) (hp : pc + 1 = pq) (hv : Int32.ofInt n = v) (k : J x y cc nL rt d ck cs Q pq ls (.int v :: st) h) : J x y cc nL rt d ck cs Q pc ls st h := by
  subst hp
  intro p l e R s m args below meth c H locs cells slots mc ms lsA E h1 h2 h3 h4 h5
  exact lv_iconst E.1 E.2.1 hd hv (k p l e R s m args below meth c H locs cells slots mc ms lsA E h1 h2 h3 h4 h5)
theorem J_bipush {n : Int} {v : Int32} (hd : decode cc pc = .ok (.bipush n, 2)) (hp : pc + 2 = pq) (hv : (Int8.ofInt n).toInt32 = v) (k : J x y cc nL rt d ck cs Q pq ls (.int v :: st) h) : J x y cc nL rt d ck cs Q pc ls st h := by
  subst hp
  intro p l e R s m args below meth c H locs cells slots mc ms lsA E h1 h2 h3 h4 h5
  exact lv_bipush E.1 E.2.1 hd hv (k p l e R s m args below meth c H locs cells slots mc ms lsA E h1 h2 h3 h4 h5)
theorem J_sipush {n : Int} {v : Int32} (hd : decode cc pc = .ok (.sipush n, 3)) (hp : pc + 3 = pq) (hv : (Int16.ofInt n).toInt32 = v) (k : J x y cc nL rt d ck cs Q pq ls (.int v :: st) h) : J x y cc nL rt d ck cs Q pc ls st h := by
  subst hp
  intro p l e R s m args below meth c H locs cells slots mc ms lsA E h1 h2 h3 h4 h5
  exact lv_sipush E.1 E.2.1 hd hv (k p l e R s m args below meth c H locs cells slots mc ms lsA E h1 h2 h3 h4 h5)
theorem J_lconst {n : Fin 2} {v : Int64} (hd : decode cc pc = .ok (.lconst n, 1)) (hp : pc + 1 = pq) (hv : Int64.ofNat (n : Nat) = v) (k : J x y cc nL rt d ck cs Q pq ls (.long v :: st) h) : J x y cc nL rt d ck cs Q pc ls st h := by
  subst hp
  intro p l e R s m args below meth c H locs cells slots mc ms lsA E h1 h2 h3 h4 h5
  exact lv_lconst E.1 E.2.1 hd hv (k p l e R s m args below meth c H locs cells slots mc ms lsA E h1 h2 h3 h4 h5)
theorem J_ldc {n : Nat} {v : Int32} (hd : decode cc pc = .ok (.ldc n, 2)) (hp : pc + 2 = pq) (hw : Cond.constant y.cls n v ∈ TBg) (k : J x y cc nL rt d ck cs Q pq ls (.int v :: st) h) : J x y cc nL rt d ck cs Q pc ls st h := by
  subst hp
  intro p l e R s m args below meth c H locs cells slots mc ms lsA E h1 h2 h3 h4 h5
  exact lv_ldc E.1 E.2.1 E.2.2.2.2.2.2.1 (E.2.2.2.2.2.2.2.1 _ hw) hd (k p l e R s m args below meth c H locs cells slots mc ms lsA E h1 h2 h3 h4 h5)
theorem J_ldcw {n : Nat} {v : Int32} (hd : decode cc pc = .ok (.ldc_w n, 3)) (hp : pc + 3 = pq) (hw : Cond.constant y.cls n v ∈ TBg) (k : J x y cc nL rt d ck cs Q pq ls (.int v :: st) h) : J x y cc nL rt d ck cs Q pc ls st h := by
  subst hp
  intro p l e R s m args below meth c H locs cells slots mc ms lsA E h1 h2 h3 h4 h5
  exact lv_ldcw E.1 E.2.1 E.2.2.2.2.2.2.1 (E.2.2.2.2.2.2.2.1 _ hw) hd (k p l e R s m args below meth c H locs cells slots mc ms lsA E h1 h2 h3 h4 h5)
theorem J_ldc2 {n : Nat} {v : Int64} (hd : decode cc pc = .ok (.ldc2_w n, 3)) (hp : pc + 3 = pq) (hw : Cond.constantLong y.cls n v ∈ TBg) (k : J x y cc nL rt d ck cs Q pq ls (.long v :: st) h) : J x y cc nL rt d ck cs Q pc ls st h := by
  subst hp
  intro p l e R s m args below meth c H locs cells slots mc ms lsA E h1 h2 h3 h4 h5
  exact lv_ldc2 E.1 E.2.1 E.2.2.2.2.2.2.1 (E.2.2.2.2.2.2.2.1 _ hw) hd (k p l e R s m args below meth c H locs cells slots mc ms lsA E h1 h2 h3 h4 h5)
theorem J_iload_n {k0 : Fin 4} {v : Int32} (hd : decode cc pc = .ok (.iload_n k0, 1)) (hp : pc + 1 = pq) (hl : ls[(k0 : Nat)]? = some (some (.int v))) (k : J x y cc nL rt d ck cs Q pq ls (.int v :: st) h) : J x y cc nL rt d ck cs Q pc ls st h := by
  subst hp
  intro p l e R s m args below meth c H locs cells slots mc ms lsA E h1 h2 h3 h4 h5
  exact lv_iload_n E.1 E.2.1 hd rfl (h5.at hl) (k p l e R s m args below meth c H locs cells slots mc ms lsA E h1 h2 h3 h4 h5)
theorem J_iload {i : Nat} {v : Int32} (hd : decode cc pc = .ok (.iload i, 2)) (hp : pc + 2 = pq) (hl : ls[i]? = some (some (.int v))) (k : J x y cc nL rt d ck cs Q pq ls (.int v :: st) h) : J x y cc nL rt d ck cs Q pc ls st h := by
  subst hp
  intro p l e R s m args below meth c H locs cells slots mc ms lsA E h1 h2 h3 h4 h5
  exact lv_iload E.1 E.2.1 hd (h5.at hl) (k p l e R s m args below meth c H locs cells slots mc ms lsA E h1 h2 h3 h4 h5)
theorem J_lload_n {k0 : Fin 4} {v : Int64} (hd : decode cc pc = .ok (.lload_n k0, 1)) (hp : pc + 1 = pq) (hl : ls[(k0 : Nat)]? = some (some (.long v))) (k : J x y cc nL rt d ck cs Q pq ls (.long v :: st) h) : J x y cc nL rt d ck cs Q pc ls st h := by
  subst hp
  intro p l e R s m args below meth c H locs cells slots mc ms lsA E h1 h2 h3 h4 h5
  exact lv_lload_n E.1 E.2.1 hd rfl (h5.at hl) (k p l e R s m args below meth c H locs cells slots mc ms lsA E h1 h2 h3 h4 h5)
theorem J_lload {i : Nat} {v : Int64} (hd : decode cc pc = .ok (.lload i, 2)) (hp : pc + 2 = pq) (hl : ls[i]? = some (some (.long v))) (k : J x y cc nL rt d ck cs Q pq ls (.long v :: st) h) : J x y cc nL rt d ck cs Q pc ls st h := by
  subst hp
  intro p l e R s m args below meth c H locs cells slots mc ms lsA E h1 h2 h3 h4 h5
  exact lv_lload E.1 E.2.1 hd (h5.at hl) (k p l e R s m args below meth c H locs cells slots mc ms lsA E h1 h2 h3 h4 h5)
theorem J_aload_n {k0 : Fin 4} {r : Nat} (hd : decode cc pc = .ok (.aload_n k0, 1)) (hp : pc + 1 = pq) (hl : ls[(k0 : Nat)]? = some (some (.ref r))) (k : J x y cc nL rt d ck cs Q pq ls (.ref r :: st) h) : J x y cc nL rt d ck cs Q pc ls st h := by
  subst hp
  intro p l e R s m args below meth c H locs cells slots mc ms lsA E h1 h2 h3 h4 h5
  exact lv_aload_n E.1 E.2.1 hd rfl (h5.at hl) (k p l e R s m args below meth c H locs cells slots mc ms lsA E h1 h2 h3 h4 h5)
theorem J_aload {i : Nat} {r : Nat} (hd : decode cc pc = .ok (.aload i, 2)) (hp : pc + 2 = pq) (hl : ls[i]? = some (some (.ref r))) (k : J x y cc nL rt d ck cs Q pq ls (.ref r :: st) h) : J x y cc nL rt d ck cs Q pc ls st h := by
  subst hp
  intro p l e R s m args below meth c H locs cells slots mc ms lsA E h1 h2 h3 h4 h5
  exact lv_aload E.1 E.2.1 hd (h5.at hl) (k p l e R s m args below meth c H locs cells slots mc ms lsA E h1 h2 h3 h4 h5)
theorem J_aload_nN {k0 : Fin 4} (hd : decode cc pc = .ok (.aload_n k0, 1)) (hp : pc + 1 = pq) (hl : ls[(k0 : Nat)]? = some (some .null)) (k : J x y cc nL rt d ck cs Q pq ls (.null :: st) h) : J x y cc nL rt d ck cs Q pc ls st h := by
  subst hp
  intro p l e R s m args below meth c H locs cells slots mc ms lsA E h1 h2 h3 h4 h5
  exact lv_aload_nN E.1 E.2.1 hd rfl (h5.at hl) (k p l e R s m args below meth c H locs cells slots mc ms lsA E h1 h2 h3 h4 h5)
theorem J_aloadN {i : Nat} (hd : decode cc pc = .ok (.aload i, 2)) (hp : pc + 2 = pq) (hl : ls[i]? = some (some .null)) (k : J x y cc nL rt d ck cs Q pq ls (.null :: st) h) : J x y cc nL rt d ck cs Q pc ls st h := by
  subst hp
  intro p l e R s m args below meth c H locs cells slots mc ms lsA E h1 h2 h3 h4 h5
  exact lv_aloadN E.1 E.2.1 hd (h5.at hl) (k p l e R s m args below meth c H locs cells slots mc ms lsA E h1 h2 h3 h4 h5)
theorem J_null  (hd : decode cc pc = .ok (.aconst_null, 1)) (hp : pc + 1 = pq)  (k : J x y cc nL rt d ck cs Q pq ls (.null :: st) h) : J x y cc nL rt d ck cs Q pc ls st h := by
  subst hp
  intro p l e R s m args below meth c H locs cells slots mc ms lsA E h1 h2 h3 h4 h5
  exact lv_null E.1 E.2.1 hd (k p l e R s m args below meth c H locs cells slots mc ms lsA E h1 h2 h3 h4 h5)
theorem J_iadd {a b : Int32} (hd : decode cc pc = .ok (.iadd, 1)) (hp : pc + 1 = pq)  (k : J x y cc nL rt d ck cs Q pq ls (.int (a + b) :: st) h) : J x y cc nL rt d ck cs Q pc ls (.int b :: .int a :: st) h := by
  subst hp
  intro p l e R s m args below meth c H locs cells slots mc ms lsA E h1 h2 h3 h4 h5
  exact lv_iadd E.1 E.2.1 hd (k p l e R s m args below meth c H locs cells slots mc ms lsA E h1 h2 h3 h4 h5)
theorem J_isub {a b : Int32} (hd : decode cc pc = .ok (.isub, 1)) (hp : pc + 1 = pq)  (k : J x y cc nL rt d ck cs Q pq ls (.int (a - b) :: st) h) : J x y cc nL rt d ck cs Q pc ls (.int b :: .int a :: st) h := by
  subst hp
  intro p l e R s m args below meth c H locs cells slots mc ms lsA E h1 h2 h3 h4 h5
  exact lv_isub E.1 E.2.1 hd (k p l e R s m args below meth c H locs cells slots mc ms lsA E h1 h2 h3 h4 h5)
theorem J_imul {a b : Int32} (hd : decode cc pc = .ok (.imul, 1)) (hp : pc + 1 = pq)  (k : J x y cc nL rt d ck cs Q pq ls (.int (a * b) :: st) h) : J x y cc nL rt d ck cs Q pc ls (.int b :: .int a :: st) h := by
  subst hp
  intro p l e R s m args below meth c H locs cells slots mc ms lsA E h1 h2 h3 h4 h5
  exact lv_imul E.1 E.2.1 hd (k p l e R s m args below meth c H locs cells slots mc ms lsA E h1 h2 h3 h4 h5)
theorem J_iand {a b : Int32} (hd : decode cc pc = .ok (.iand, 1)) (hp : pc + 1 = pq)  (k : J x y cc nL rt d ck cs Q pq ls (.int (a &&& b) :: st) h) : J x y cc nL rt d ck cs Q pc ls (.int b :: .int a :: st) h := by
  subst hp
  intro p l e R s m args below meth c H locs cells slots mc ms lsA E h1 h2 h3 h4 h5
  exact lv_iand E.1 E.2.1 hd (k p l e R s m args below meth c H locs cells slots mc ms lsA E h1 h2 h3 h4 h5)
theorem J_ior {a b : Int32} (hd : decode cc pc = .ok (.ior, 1)) (hp : pc + 1 = pq)  (k : J x y cc nL rt d ck cs Q pq ls (.int (a ||| b) :: st) h) : J x y cc nL rt d ck cs Q pc ls (.int b :: .int a :: st) h := by
  subst hp
  intro p l e R s m args below meth c H locs cells slots mc ms lsA E h1 h2 h3 h4 h5
  exact lv_ior E.1 E.2.1 hd (k p l e R s m args below meth c H locs cells slots mc ms lsA E h1 h2 h3 h4 h5)
theorem J_ixor {a b : Int32} (hd : decode cc pc = .ok (.ixor, 1)) (hp : pc + 1 = pq)  (k : J x y cc nL rt d ck cs Q pq ls (.int (a ^^^ b) :: st) h) : J x y cc nL rt d ck cs Q pc ls (.int b :: .int a :: st) h := by
  subst hp
  intro p l e R s m args below meth c H locs cells slots mc ms lsA E h1 h2 h3 h4 h5
  exact lv_ixor E.1 E.2.1 hd (k p l e R s m args below meth c H locs cells slots mc ms lsA E h1 h2 h3 h4 h5)
theorem J_ishl {a b : Int32} (hd : decode cc pc = .ok (.ishl, 1)) (hp : pc + 1 = pq)  (k : J x y cc nL rt d ck cs Q pq ls (.int (a <<< (b &&& 31)) :: st) h) : J x y cc nL rt d ck cs Q pc ls (.int b :: .int a :: st) h := by
  subst hp
  intro p l e R s m args below meth c H locs cells slots mc ms lsA E h1 h2 h3 h4 h5
  exact lv_ishl E.1 E.2.1 hd (k p l e R s m args below meth c H locs cells slots mc ms lsA E h1 h2 h3 h4 h5)
theorem J_ishr {a b : Int32} (hd : decode cc pc = .ok (.ishr, 1)) (hp : pc + 1 = pq)  (k : J x y cc nL rt d ck cs Q pq ls (.int (a >>> (b &&& 31)) :: st) h) : J x y cc nL rt d ck cs Q pc ls (.int b :: .int a :: st) h := by
  subst hp
  intro p l e R s m args below meth c H locs cells slots mc ms lsA E h1 h2 h3 h4 h5
  exact lv_ishr E.1 E.2.1 hd (k p l e R s m args below meth c H locs cells slots mc ms lsA E h1 h2 h3 h4 h5)
theorem J_idiv {a b : Int32} (hd : decode cc pc = .ok (.idiv, 1)) (hp : pc + 1 = pq) (hne : ¬ b = 0) (k : J x y cc nL rt d ck cs Q pq ls (.int (a / b) :: st) h) : J x y cc nL rt d ck cs Q pc ls (.int b :: .int a :: st) h := by
  subst hp
  intro p l e R s m args below meth c H locs cells slots mc ms lsA E h1 h2 h3 h4 h5
  exact lv_idiv E.1 E.2.1 hd hne (k p l e R s m args below meth c H locs cells slots mc ms lsA E h1 h2 h3 h4 h5)
theorem J_irem {a b : Int32} (hd : decode cc pc = .ok (.irem, 1)) (hp : pc + 1 = pq) (hne : ¬ b = 0) (k : J x y cc nL rt d ck cs Q pq ls (.int (a - a / b * b) :: st) h) : J x y cc nL rt d ck cs Q pc ls (.int b :: .int a :: st) h := by
  subst hp
  intro p l e R s m args below meth c H locs cells slots mc ms lsA E h1 h2 h3 h4 h5
  exact lv_irem E.1 E.2.1 hd hne (k p l e R s m args below meth c H locs cells slots mc ms lsA E h1 h2 h3 h4 h5)
theorem J_ladd {a b : Int64} (hd : decode cc pc = .ok (.ladd, 1)) (hp : pc + 1 = pq)  (k : J x y cc nL rt d ck cs Q pq ls (.long (a + b) :: st) h) : J x y cc nL rt d ck cs Q pc ls (.long b :: .long a :: st) h := by
  subst hp
  intro p l e R s m args below meth c H locs cells slots mc ms lsA E h1 h2 h3 h4 h5
  exact lv_ladd E.1 E.2.1 hd (k p l e R s m args below meth c H locs cells slots mc ms lsA E h1 h2 h3 h4 h5)
theorem J_lmul {a b : Int64} (hd : decode cc pc = .ok (.lmul, 1)) (hp : pc + 1 = pq)  (k : J x y cc nL rt d ck cs Q pq ls (.long (a * b) :: st) h) : J x y cc nL rt d ck cs Q pc ls (.long b :: .long a :: st) h := by
  subst hp
  intro p l e R s m args below meth c H locs cells slots mc ms lsA E h1 h2 h3 h4 h5
  exact lv_lmul E.1 E.2.1 hd (k p l e R s m args below meth c H locs cells slots mc ms lsA E h1 h2 h3 h4 h5)
theorem J_lor {a b : Int64} (hd : decode cc pc = .ok (.lor, 1)) (hp : pc + 1 = pq)  (k : J x y cc nL rt d ck cs Q pq ls (.long (a ||| b) :: st) h) : J x y cc nL rt d ck cs Q pc ls (.long b :: .long a :: st) h := by
  subst hp
  intro p l e R s m args below meth c H locs cells slots mc ms lsA E h1 h2 h3 h4 h5
  exact lv_lor E.1 E.2.1 hd (k p l e R s m args below meth c H locs cells slots mc ms lsA E h1 h2 h3 h4 h5)
theorem J_iushr {a b : Int32} (hd : decode cc pc = .ok (.iushr, 1)) (hp : pc + 1 = pq)  (k : J x y cc nL rt d ck cs Q pq ls (.int (a.toUInt32 >>> (b.toUInt32 &&& Int32.toUInt32 31)).toInt32 :: st) h) : J x y cc nL rt d ck cs Q pc ls (.int b :: .int a :: st) h := by
  subst hp
  intro p l e R s m args below meth c H locs cells slots mc ms lsA E h1 h2 h3 h4 h5
  exact lv_iushr E.1 E.2.1 hd rfl (k p l e R s m args below meth c H locs cells slots mc ms lsA E h1 h2 h3 h4 h5)
theorem J_lshl {a : Int64} {b : Int32} (hd : decode cc pc = .ok (.lshl, 1)) (hp : pc + 1 = pq)  (k : J x y cc nL rt d ck cs Q pq ls (.long (a <<< (b.toInt64 &&& 63)) :: st) h) : J x y cc nL rt d ck cs Q pc ls (.int b :: .long a :: st) h := by
  subst hp
  intro p l e R s m args below meth c H locs cells slots mc ms lsA E h1 h2 h3 h4 h5
  exact lv_lshl E.1 E.2.1 hd rfl (k p l e R s m args below meth c H locs cells slots mc ms lsA E h1 h2 h3 h4 h5)
theorem J_i2l {a : Int32} (hd : decode cc pc = .ok (.i2l, 1)) (hp : pc + 1 = pq)  (k : J x y cc nL rt d ck cs Q pq ls (.long a.toInt64 :: st) h) : J x y cc nL rt d ck cs Q pc ls (.int a :: st) h := by
  subst hp
  intro p l e R s m args below meth c H locs cells slots mc ms lsA E h1 h2 h3 h4 h5
  exact lv_i2l E.1 E.2.1 hd rfl (k p l e R s m args below meth c H locs cells slots mc ms lsA E h1 h2 h3 h4 h5)
theorem J_l2i {a : Int64} (hd : decode cc pc = .ok (.l2i, 1)) (hp : pc + 1 = pq)  (k : J x y cc nL rt d ck cs Q pq ls (.int a.toInt32 :: st) h) : J x y cc nL rt d ck cs Q pc ls (.long a :: st) h := by
  subst hp
  intro p l e R s m args below meth c H locs cells slots mc ms lsA E h1 h2 h3 h4 h5
  exact lv_l2i E.1 E.2.1 hd rfl (k p l e R s m args below meth c H locs cells slots mc ms lsA E h1 h2 h3 h4 h5)
theorem J_lcmp {a b : Int64} (hd : decode cc pc = .ok (.lcmp, 1)) (hp : pc + 1 = pq)  (k : J x y cc nL rt d ck cs Q pq ls (.int (lg_cmp a b) :: st) h) : J x y cc nL rt d ck cs Q pc ls (.long b :: .long a :: st) h := by
  subst hp
  intro p l e R s m args below meth c H locs cells slots mc ms lsA E h1 h2 h3 h4 h5
  exact W.lcmp E.1 E.2.1 hd (k p l e R s m args below meth c H locs cells slots mc ms lsA E h1 h2 h3 h4 h5)
theorem J_dup {v : Value} (hd : decode cc pc = .ok (.dup, 1)) (hp : pc + 1 = pq) (hv : v.category = 1) (k : J x y cc nL rt d ck cs Q pq ls (v :: v :: st) h) : J x y cc nL rt d ck cs Q pc ls (v :: st) h := by
  subst hp
  intro p l e R s m args below meth c H locs cells slots mc ms lsA E h1 h2 h3 h4 h5
  exact lv_dup E.1 E.2.1 hd (by rw [mv_cat]; exact hv) (k p l e R s m args below meth c H locs cells slots mc ms lsA E h1 h2 h3 h4 h5)
theorem J_pop {v : Value} (hd : decode cc pc = .ok (.pop, 1)) (hp : pc + 1 = pq) (hv : v.category = 1) (k : J x y cc nL rt d ck cs Q pq ls st h) : J x y cc nL rt d ck cs Q pc ls (v :: st) h := by
  subst hp
  intro p l e R s m args below meth c H locs cells slots mc ms lsA E h1 h2 h3 h4 h5
  exact lv_pop E.1 E.2.1 hd (by rw [mv_cat]; exact hv) (k p l e R s m args below meth c H locs cells slots mc ms lsA E h1 h2 h3 h4 h5)
theorem J_dup2 {v w : Value} (hd : decode cc pc = .ok (.dup2, 1)) (hp : pc + 1 = pq) (hv : v.category = 1) (hw : w.category = 1) (k : J x y cc nL rt d ck cs Q pq ls (v :: w :: v :: w :: st) h) : J x y cc nL rt d ck cs Q pc ls (v :: w :: st) h := by
  subst hp
  intro p l e R s m args below meth c H locs cells slots mc ms lsA E h1 h2 h3 h4 h5
  exact lv_dup2_11 E.1 E.2.1 hd (by rw [mv_cat]; exact hv) (by rw [mv_cat]; exact hw) (k p l e R s m args below meth c H locs cells slots mc ms lsA E h1 h2 h3 h4 h5)
theorem J_istore_n {k0 : Fin 4} {v : Int32} (hd : decode cc pc = .ok (.istore_n k0, 1)) (hp : pc + 1 = pq)  (hn : (k0 : Nat) < nL) (hll : (k0 : Nat) < ls.length) (hno : nolong ls (k0 : Nat) = true) (k : J x y cc nL rt d ck cs Q pq (ls.set (k0 : Nat) (some (.int v))) st h) : J x y cc nL rt d ck cs Q pc ls (.int v :: st) h := by
  subst hp
  intro p l e R s m args below meth c H locs cells slots mc ms lsA E h1 h2 h3 h4 h5
  obtain ⟨l0, hl0, hm0⟩ := h5.pairs
  exact lv_istore_n E.1 E.2.1 hd rfl hl0 hn rfl (fun ls' e' => k p l e R s m args below meth c H locs cells slots mc ms ls' E h1 h2 h3 h4 (JL.of1 (v := .int v) e' hm0 hno hll))
theorem J_istore {i : Nat} {v : Int32} (hd : decode cc pc = .ok (.istore i, 2)) (hp : pc + 2 = pq)  (hn : i < nL) (hll : i < ls.length) (hno : nolong ls i = true) (k : J x y cc nL rt d ck cs Q pq (ls.set i (some (.int v))) st h) : J x y cc nL rt d ck cs Q pc ls (.int v :: st) h := by
  subst hp
  intro p l e R s m args below meth c H locs cells slots mc ms lsA E h1 h2 h3 h4 h5
  obtain ⟨l0, hl0, hm0⟩ := h5.pairs
  exact lv_istore E.1 E.2.1 hd hl0 hn rfl (fun ls' e' => k p l e R s m args below meth c H locs cells slots mc ms ls' E h1 h2 h3 h4 (JL.of1 (v := .int v) e' hm0 hno hll))
theorem J_lstore_n {k0 : Fin 4} {v : Int64} (hd : decode cc pc = .ok (.lstore_n k0, 1)) (hp : pc + 1 = pq)  (hn : (k0 : Nat) + 1 < nL) (hll : (k0 : Nat) + 1 < ls.length) (hno : nolong ls (k0 : Nat) = true) (k : J x y cc nL rt d ck cs Q pq ((ls.set (k0 : Nat) (some (.long v))).set ((k0 : Nat) + 1) none) st h) : J x y cc nL rt d ck cs Q pc ls (.long v :: st) h := by
  subst hp
  intro p l e R s m args below meth c H locs cells slots mc ms lsA E h1 h2 h3 h4 h5
  obtain ⟨l0, hl0, hm0⟩ := h5.pairs
  exact lv_lstore_n E.1 E.2.1 hd rfl hl0 hn rfl (fun ls' e' => k p l e R s m args below meth c H locs cells slots mc ms ls' E h1 h2 h3 h4 (JL.of2 (v := .long v) e' hm0 hno hll))
theorem J_lstore {i : Nat} {v : Int64} (hd : decode cc pc = .ok (.lstore i, 2)) (hp : pc + 2 = pq)  (hn : i + 1 < nL) (hll : i + 1 < ls.length) (hno : nolong ls i = true) (k : J x y cc nL rt d ck cs Q pq ((ls.set i (some (.long v))).set (i + 1) none) st h) : J x y cc nL rt d ck cs Q pc ls (.long v :: st) h := by
  subst hp
  intro p l e R s m args below meth c H locs cells slots mc ms lsA E h1 h2 h3 h4 h5
  obtain ⟨l0, hl0, hm0⟩ := h5.pairs
  exact lv_lstore E.1 E.2.1 hd hl0 hn rfl (fun ls' e' => k p l e R s m args below meth c H locs cells slots mc ms ls' E h1 h2 h3 h4 (JL.of2 (v := .long v) e' hm0 hno hll))
theorem J_astore_n {k0 : Fin 4} {r : Nat} (hd : decode cc pc = .ok (.astore_n k0, 1)) (hp : pc + 1 = pq)  (hn : (k0 : Nat) < nL) (hll : (k0 : Nat) < ls.length) (hno : nolong ls (k0 : Nat) = true) (k : J x y cc nL rt d ck cs Q pq (ls.set (k0 : Nat) (some (.ref r))) st h) : J x y cc nL rt d ck cs Q pc ls (.ref r :: st) h := by
  subst hp
  intro p l e R s m args below meth c H locs cells slots mc ms lsA E h1 h2 h3 h4 h5
  obtain ⟨l0, hl0, hm0⟩ := h5.pairs
  exact lv_astore_n E.1 E.2.1 hd rfl hl0 hn rfl (fun ls' e' => k p l e R s m args below meth c H locs cells slots mc ms ls' E h1 h2 h3 h4 (JL.of1 (v := .ref r) e' hm0 hno hll))
theorem J_astore {i : Nat} {r : Nat} (hd : decode cc pc = .ok (.astore i, 2)) (hp : pc + 2 = pq)  (hn : i < nL) (hll : i < ls.length) (hno : nolong ls i = true) (k : J x y cc nL rt d ck cs Q pq (ls.set i (some (.ref r))) st h) : J x y cc nL rt d ck cs Q pc ls (.ref r :: st) h := by
  subst hp
  intro p l e R s m args below meth c H locs cells slots mc ms lsA E h1 h2 h3 h4 h5
  obtain ⟨l0, hl0, hm0⟩ := h5.pairs
  exact lv_astore E.1 E.2.1 hd hl0 hn rfl (fun ls' e' => k p l e R s m args below meth c H locs cells slots mc ms ls' E h1 h2 h3 h4 (JL.of1 (v := .ref r) e' hm0 hno hll))
theorem J_astore_nN {k0 : Fin 4} (hd : decode cc pc = .ok (.astore_n k0, 1)) (hp : pc + 1 = pq)  (hn : (k0 : Nat) < nL) (hll : (k0 : Nat) < ls.length) (hno : nolong ls (k0 : Nat) = true) (k : J x y cc nL rt d ck cs Q pq (ls.set (k0 : Nat) (some (.null))) st h) : J x y cc nL rt d ck cs Q pc ls (.null :: st) h := by
  subst hp
  intro p l e R s m args below meth c H locs cells slots mc ms lsA E h1 h2 h3 h4 h5
  obtain ⟨l0, hl0, hm0⟩ := h5.pairs
  exact lv_astore_nN E.1 E.2.1 hd rfl hl0 hn rfl (fun ls' e' => k p l e R s m args below meth c H locs cells slots mc ms ls' E h1 h2 h3 h4 (JL.of1 (v := .null) e' hm0 hno hll))
theorem J_astoreN {i : Nat} (hd : decode cc pc = .ok (.astore i, 2)) (hp : pc + 2 = pq)  (hn : i < nL) (hll : i < ls.length) (hno : nolong ls i = true) (k : J x y cc nL rt d ck cs Q pq (ls.set i (some (.null))) st h) : J x y cc nL rt d ck cs Q pc ls (.null :: st) h := by
  subst hp
  intro p l e R s m args below meth c H locs cells slots mc ms lsA E h1 h2 h3 h4 h5
  obtain ⟨l0, hl0, hm0⟩ := h5.pairs
  exact lv_astoreN E.1 E.2.1 hd hl0 hn rfl (fun ls' e' => k p l e R s m args below meth c H locs cells slots mc ms ls' E h1 h2 h3 h4 (JL.of1 (v := .null) e' hm0 hno hll))
theorem J_iinc {i : Nat} {n : Int} {a v : Int32} (hd : decode cc pc = .ok (.iinc i n, 3)) (hp : pc + 3 = pq) (hv : Int32.ofInt n = v) (hl : ls[i]? = some (some (.int a))) (hn : i < nL) (hno : nolong ls i = true) (k : J x y cc nL rt d ck cs Q pq (ls.set i (some (.int (a + v)))) st h) : J x y cc nL rt d ck cs Q pc ls st h := by
  subst hp
  subst hv
  intro p l e R s m args below meth c H locs cells slots mc ms lsA E h1 h2 h3 h4 h5
  obtain ⟨l0, hl0, hm0⟩ := h5.pairs
  obtain ⟨kk0, hk0⟩ := List.getElem?_of_mem (hm0 i _ hl)
  exact lv_iinc E.1 E.2.1 hd hl0 hk0 rfl hn rfl (fun ls' e' => k p l e R s m args below meth c H locs cells slots mc ms ls' E h1 h2 h3 h4 (JL.of1 (v := .int (a + Int32.ofInt n)) e' hm0 hno (List.getElem?_eq_some_iff.mp hl).1))
theorem J_if_eq {tgt : Nat} {a : Int32} {off : Int} (hd : decode cc pc = .ok (.ifCond .eq off, 3)) (hp : pc + 3 = pq) (ht : (pc : Int) + off = (tgt : Int)) (kt : a = 0 → J x y cc nL rt d ck cs Q tgt ls st h) (kf : ¬ a = 0 → J x y cc nL rt d ck cs Q pq ls st h) : J x y cc nL rt d ck cs Q pc ls (.int a :: st) h := by
  subst hp
  intro p l e R s m args below meth c H locs cells slots mc ms lsA E h1 h2 h3 h4 h5
  exact lv_if_eq E.1 E.2.1 hd ht (fun q => kt q p l e R s m args below meth c H locs cells slots mc ms lsA E h1 h2 h3 h4 h5) (fun q => kf q p l e R s m args below meth c H locs cells slots mc ms lsA E h1 h2 h3 h4 h5)
theorem J_icmp_eq {tgt : Nat} {a b : Int32} {off : Int} (hd : decode cc pc = .ok (.if_icmp .eq off, 3)) (hp : pc + 3 = pq) (ht : (pc : Int) + off = (tgt : Int)) (kt : a = b → J x y cc nL rt d ck cs Q tgt ls st h) (kf : ¬ a = b → J x y cc nL rt d ck cs Q pq ls st h) : J x y cc nL rt d ck cs Q pc ls (.int b :: .int a :: st) h := by
  subst hp
  intro p l e R s m args below meth c H locs cells slots mc ms lsA E h1 h2 h3 h4 h5
  exact lv_icmp_eq E.1 E.2.1 hd ht (fun q => kt q p l e R s m args below meth c H locs cells slots mc ms lsA E h1 h2 h3 h4 h5) (fun q => kf q p l e R s m args below meth c H locs cells slots mc ms lsA E h1 h2 h3 h4 h5)
theorem J_if_ne {tgt : Nat} {a : Int32} {off : Int} (hd : decode cc pc = .ok (.ifCond .ne off, 3)) (hp : pc + 3 = pq) (ht : (pc : Int) + off = (tgt : Int)) (kt : ¬ a = 0 → J x y cc nL rt d ck cs Q tgt ls st h) (kf : a = 0 → J x y cc nL rt d ck cs Q pq ls st h) : J x y cc nL rt d ck cs Q pc ls (.int a :: st) h := by
  subst hp
  intro p l e R s m args below meth c H locs cells slots mc ms lsA E h1 h2 h3 h4 h5
  exact lv_if_ne E.1 E.2.1 hd ht (fun q => kt q p l e R s m args below meth c H locs cells slots mc ms lsA E h1 h2 h3 h4 h5) (fun q => kf q p l e R s m args below meth c H locs cells slots mc ms lsA E h1 h2 h3 h4 h5)
theorem J_icmp_ne {tgt : Nat} {a b : Int32} {off : Int} (hd : decode cc pc = .ok (.if_icmp .ne off, 3)) (hp : pc + 3 = pq) (ht : (pc : Int) + off = (tgt : Int)) (kt : ¬ a = b → J x y cc nL rt d ck cs Q tgt ls st h) (kf : a = b → J x y cc nL rt d ck cs Q pq ls st h) : J x y cc nL rt d ck cs Q pc ls (.int b :: .int a :: st) h := by
  subst hp
  intro p l e R s m args below meth c H locs cells slots mc ms lsA E h1 h2 h3 h4 h5
  exact lv_icmp_ne E.1 E.2.1 hd ht (fun q => kt q p l e R s m args below meth c H locs cells slots mc ms lsA E h1 h2 h3 h4 h5) (fun q => kf q p l e R s m args below meth c H locs cells slots mc ms lsA E h1 h2 h3 h4 h5)
theorem J_if_lt {tgt : Nat} {a : Int32} {off : Int} (hd : decode cc pc = .ok (.ifCond .lt off, 3)) (hp : pc + 3 = pq) (ht : (pc : Int) + off = (tgt : Int)) (kt : a < 0 → J x y cc nL rt d ck cs Q tgt ls st h) (kf : ¬ a < 0 → J x y cc nL rt d ck cs Q pq ls st h) : J x y cc nL rt d ck cs Q pc ls (.int a :: st) h := by
  subst hp
  intro p l e R s m args below meth c H locs cells slots mc ms lsA E h1 h2 h3 h4 h5
  exact lv_if_lt E.1 E.2.1 hd ht (fun q => kt q p l e R s m args below meth c H locs cells slots mc ms lsA E h1 h2 h3 h4 h5) (fun q => kf q p l e R s m args below meth c H locs cells slots mc ms lsA E h1 h2 h3 h4 h5)
theorem J_icmp_lt {tgt : Nat} {a b : Int32} {off : Int} (hd : decode cc pc = .ok (.if_icmp .lt off, 3)) (hp : pc + 3 = pq) (ht : (pc : Int) + off = (tgt : Int)) (kt : a < b → J x y cc nL rt d ck cs Q tgt ls st h) (kf : ¬ a < b → J x y cc nL rt d ck cs Q pq ls st h) : J x y cc nL rt d ck cs Q pc ls (.int b :: .int a :: st) h := by
  subst hp
  intro p l e R s m args below meth c H locs cells slots mc ms lsA E h1 h2 h3 h4 h5
  exact lv_icmp_lt E.1 E.2.1 hd ht (fun q => kt q p l e R s m args below meth c H locs cells slots mc ms lsA E h1 h2 h3 h4 h5) (fun q => kf q p l e R s m args below meth c H locs cells slots mc ms lsA E h1 h2 h3 h4 h5)
theorem J_if_ge {tgt : Nat} {a : Int32} {off : Int} (hd : decode cc pc = .ok (.ifCond .ge off, 3)) (hp : pc + 3 = pq) (ht : (pc : Int) + off = (tgt : Int)) (kt : 0 ≤ a → J x y cc nL rt d ck cs Q tgt ls st h) (kf : ¬ 0 ≤ a → J x y cc nL rt d ck cs Q pq ls st h) : J x y cc nL rt d ck cs Q pc ls (.int a :: st) h := by
  subst hp
  intro p l e R s m args below meth c H locs cells slots mc ms lsA E h1 h2 h3 h4 h5
  exact lv_if_ge E.1 E.2.1 hd ht (fun q => kt q p l e R s m args below meth c H locs cells slots mc ms lsA E h1 h2 h3 h4 h5) (fun q => kf q p l e R s m args below meth c H locs cells slots mc ms lsA E h1 h2 h3 h4 h5)
theorem J_icmp_ge {tgt : Nat} {a b : Int32} {off : Int} (hd : decode cc pc = .ok (.if_icmp .ge off, 3)) (hp : pc + 3 = pq) (ht : (pc : Int) + off = (tgt : Int)) (kt : b ≤ a → J x y cc nL rt d ck cs Q tgt ls st h) (kf : ¬ b ≤ a → J x y cc nL rt d ck cs Q pq ls st h) : J x y cc nL rt d ck cs Q pc ls (.int b :: .int a :: st) h := by
  subst hp
  intro p l e R s m args below meth c H locs cells slots mc ms lsA E h1 h2 h3 h4 h5
  exact lv_icmp_ge E.1 E.2.1 hd ht (fun q => kt q p l e R s m args below meth c H locs cells slots mc ms lsA E h1 h2 h3 h4 h5) (fun q => kf q p l e R s m args below meth c H locs cells slots mc ms lsA E h1 h2 h3 h4 h5)
theorem J_if_gt {tgt : Nat} {a : Int32} {off : Int} (hd : decode cc pc = .ok (.ifCond .gt off, 3)) (hp : pc + 3 = pq) (ht : (pc : Int) + off = (tgt : Int)) (kt : 0 < a → J x y cc nL rt d ck cs Q tgt ls st h) (kf : ¬ 0 < a → J x y cc nL rt d ck cs Q pq ls st h) : J x y cc nL rt d ck cs Q pc ls (.int a :: st) h := by
  subst hp
  intro p l e R s m args below meth c H locs cells slots mc ms lsA E h1 h2 h3 h4 h5
  exact lv_if_gt E.1 E.2.1 hd ht (fun q => kt q p l e R s m args below meth c H locs cells slots mc ms lsA E h1 h2 h3 h4 h5) (fun q => kf q p l e R s m args below meth c H locs cells slots mc ms lsA E h1 h2 h3 h4 h5)
theorem J_icmp_gt {tgt : Nat} {a b : Int32} {off : Int} (hd : decode cc pc = .ok (.if_icmp .gt off, 3)) (hp : pc + 3 = pq) (ht : (pc : Int) + off = (tgt : Int)) (kt : b < a → J x y cc nL rt d ck cs Q tgt ls st h) (kf : ¬ b < a → J x y cc nL rt d ck cs Q pq ls st h) : J x y cc nL rt d ck cs Q pc ls (.int b :: .int a :: st) h := by
  subst hp
  intro p l e R s m args below meth c H locs cells slots mc ms lsA E h1 h2 h3 h4 h5
  exact lv_icmp_gt E.1 E.2.1 hd ht (fun q => kt q p l e R s m args below meth c H locs cells slots mc ms lsA E h1 h2 h3 h4 h5) (fun q => kf q p l e R s m args below meth c H locs cells slots mc ms lsA E h1 h2 h3 h4 h5)
theorem J_if_le {tgt : Nat} {a : Int32} {off : Int} (hd : decode cc pc = .ok (.ifCond .le off, 3)) (hp : pc + 3 = pq) (ht : (pc : Int) + off = (tgt : Int)) (kt : a ≤ 0 → J x y cc nL rt d ck cs Q tgt ls st h) (kf : ¬ a ≤ 0 → J x y cc nL rt d ck cs Q pq ls st h) : J x y cc nL rt d ck cs Q pc ls (.int a :: st) h := by
  subst hp
  intro p l e R s m args below meth c H locs cells slots mc ms lsA E h1 h2 h3 h4 h5
  exact lv_if_le E.1 E.2.1 hd ht (fun q => kt q p l e R s m args below meth c H locs cells slots mc ms lsA E h1 h2 h3 h4 h5) (fun q => kf q p l e R s m args below meth c H locs cells slots mc ms lsA E h1 h2 h3 h4 h5)
theorem J_icmp_le {tgt : Nat} {a b : Int32} {off : Int} (hd : decode cc pc = .ok (.if_icmp .le off, 3)) (hp : pc + 3 = pq) (ht : (pc : Int) + off = (tgt : Int)) (kt : a ≤ b → J x y cc nL rt d ck cs Q tgt ls st h) (kf : ¬ a ≤ b → J x y cc nL rt d ck cs Q pq ls st h) : J x y cc nL rt d ck cs Q pc ls (.int b :: .int a :: st) h := by
  subst hp
  intro p l e R s m args below meth c H locs cells slots mc ms lsA E h1 h2 h3 h4 h5
  exact lv_icmp_le E.1 E.2.1 hd ht (fun q => kt q p l e R s m args below meth c H locs cells slots mc ms lsA E h1 h2 h3 h4 h5) (fun q => kf q p l e R s m args below meth c H locs cells slots mc ms lsA E h1 h2 h3 h4 h5)
theorem J_goto {tgt : Nat} {off : Int} (hd : decode cc pc = .ok (.goto off, 3)) (ht : (pc : Int) + off = (tgt : Int)) (k : J x y cc nL rt d ck cs Q tgt ls st h) : J x y cc nL rt d ck cs Q pc ls st h := by
  intro p l e R s m args below meth c H locs cells slots mc ms lsA E h1 h2 h3 h4 h5
  exact lv_goto E.1 E.2.1 hd ht (k p l e R s m args below meth c H locs cells slots mc ms lsA E h1 h2 h3 h4 h5)
theorem J_ifnull {off : Int} {r : Nat} (hd : decode cc pc = .ok (.ifnull off, 3)) (hp : pc + 3 = pq) (k : J x y cc nL rt d ck cs Q pq ls st h) : J x y cc nL rt d ck cs Q pc ls (.ref r :: st) h := by
  subst hp
  intro p l e R s m args below meth c H locs cells slots mc ms lsA E h1 h2 h3 h4 h5
  exact lv_ifnull E.1 E.2.1 hd (k p l e R s m args below meth c H locs cells slots mc ms lsA E h1 h2 h3 h4 h5)
theorem J_ifnullN {tgt : Nat} {off : Int} (hd : decode cc pc = .ok (.ifnull off, 3)) (ht : (pc : Int) + off = (tgt : Int)) (k : J x y cc nL rt d ck cs Q tgt ls st h) : J x y cc nL rt d ck cs Q pc ls (.null :: st) h := by
  intro p l e R s m args below meth c H locs cells slots mc ms lsA E h1 h2 h3 h4 h5
  exact lv_ifnullN E.1 E.2.1 hd ht (k p l e R s m args below meth c H locs cells slots mc ms lsA E h1 h2 h3 h4 h5)
theorem J_ifnonnull {tgt : Nat} {off : Int} {r : Nat} (hd : decode cc pc = .ok (.ifnonnull off, 3)) (ht : (pc : Int) + off = (tgt : Int)) (k : J x y cc nL rt d ck cs Q tgt ls st h) : J x y cc nL rt d ck cs Q pc ls (.ref r :: st) h := by
  intro p l e R s m args below meth c H locs cells slots mc ms lsA E h1 h2 h3 h4 h5
  exact lv_ifnonnull E.1 E.2.1 hd ht (k p l e R s m args below meth c H locs cells slots mc ms lsA E h1 h2 h3 h4 h5)
theorem J_ifnonnullN {off : Int} (hd : decode cc pc = .ok (.ifnonnull off, 3)) (hp : pc + 3 = pq) (k : J x y cc nL rt d ck cs Q pq ls st h) : J x y cc nL rt d ck cs Q pc ls (.null :: st) h := by
  subst hp
  intro p l e R s m args below meth c H locs cells slots mc ms lsA E h1 h2 h3 h4 h5
  exact lv_ifnonnullN E.1 E.2.1 hd (k p l e R s m args below meth c H locs cells slots mc ms lsA E h1 h2 h3 h4 h5)
theorem J_tabOut {tgt : Nat} {dflt lo hi : Int} {offs : Array Int} {len : Nat} {a : Int32} (hd : decode cc pc = .ok (.tableswitch dflt lo hi offs, len)) (hq : a.toInt < lo ∨ hi < a.toInt) (ht : (pc : Int) + dflt = (tgt : Int)) (k : J x y cc nL rt d ck cs Q tgt ls st h) : J x y cc nL rt d ck cs Q pc ls (.int a :: st) h := by
  intro p l e R s m args below meth c H locs cells slots mc ms lsA E h1 h2 h3 h4 h5
  exact lv_tableOut E.1 E.2.1 hd hq ht (k p l e R s m args below meth c H locs cells slots mc ms lsA E h1 h2 h3 h4 h5)
theorem J_tabIn {tgt : Nat} {dflt lo hi off : Int} {offs : Array Int} {len : Nat} {a : Int32} (hd : decode cc pc = .ok (.tableswitch dflt lo hi offs, len)) (hq1 : ¬ a.toInt < lo) (hq2 : ¬ hi < a.toInt) (ho : offs[(a.toInt - lo).toNat]? = some off) (ht : (pc : Int) + off = (tgt : Int)) (k : J x y cc nL rt d ck cs Q tgt ls st h) : J x y cc nL rt d ck cs Q pc ls (.int a :: st) h := by
  intro p l e R s m args below meth c H locs cells slots mc ms lsA E h1 h2 h3 h4 h5
  exact lv_tableIn E.1 E.2.1 hd hq1 hq2 ho ht (k p l e R s m args below meth c H locs cells slots mc ms lsA E h1 h2 h3 h4 h5)
end JR
end
section
-- the classes' words
theorem jin_X0 : ∀ w ∈ wsX00, w ∈ lw_tbl := by decide +kernel
theorem jin_X1 : ∀ w ∈ wsX10, w ∈ lw_tbl := by decide +kernel
theorem jin_X2 : ∀ w ∈ wsX20, w ∈ lw_tbl := by decide +kernel
theorem jin_X3 : ∀ w ∈ wsX30, w ∈ lw_tbl := by decide +kernel
theorem jin_X4 : ∀ w ∈ wsX40, w ∈ lw_tbl := by decide +kernel
theorem jin_X5 : ∀ w ∈ wsX50, w ∈ lw_tbl := by decide +kernel
theorem jin_X6 : ∀ w ∈ wsX60, w ∈ lw_tbl := by decide +kernel
theorem jin_X7 : ∀ w ∈ wsX70, w ∈ lw_tbl := by decide +kernel
theorem jin_X8 : ∀ w ∈ wsX80, w ∈ lw_tbl := by decide +kernel
theorem jin_X9 : ∀ w ∈ wsX90, w ∈ lw_tbl := by decide +kernel
theorem jgw {ws : List Cond} (h : ∀ w ∈ ws, w ∈ lw_tbl) (hg : ws.all goodWord = true) : ∀ w ∈ ws, w ∈ TBg := fun w hw => List.mem_filter.mpr ⟨h w hw, List.all_eq_true.mp hg w hw⟩
def JCls (r : vw_C) : Prop := (∀ w ∈ u_ws r.1 r.2.1 r.2.2, w ∈ TBg) ∧ (∃ ty : Nat → FieldType, ∀ k, k < r.2.2 → parseFieldDescriptor (r.2.1 k).2.2.1 = some (ty k)) ∧ ∀ a, a < r.2.2 → ∀ b, b < r.2.2 → a ≠ b → (r.2.1 a).2.1 ≠ (r.2.1 b).2.1
theorem jcls : ∀ (ci : Nat) (r : vw_C), vwCl[ci]? = some r → JCls r := by
  intro ci r hr
  match ci, hr with
  | 0, hr => cases hr; exact ⟨jgw jin_X0 (by decide +kernel), ⟨tyX0, tyX0_ok⟩, nmX0⟩
  | 1, hr => cases hr; exact ⟨jgw jin_X1 (by decide +kernel), ⟨tyX1, tyX1_ok⟩, nmX1⟩
  | 2, hr => cases hr; exact ⟨jgw jin_X2 (by decide +kernel), ⟨tyX2, tyX2_ok⟩, nmX2⟩
  | 3, hr => cases hr; exact ⟨jgw jin_X3 (by decide +kernel), ⟨tyX3, tyX3_ok⟩, nmX3⟩
  | 4, hr => cases hr; exact ⟨jgw jin_X4 (by decide +kernel), ⟨tyX4, tyX4_ok⟩, nmX4⟩
  | 5, hr => cases hr; exact ⟨jgw jin_X5 (by decide +kernel), ⟨tyX5, tyX5_ok⟩, nmX5⟩
  | 6, hr => cases hr; exact ⟨jgw jin_X6 (by decide +kernel), ⟨tyX6, tyX6_ok⟩, nmX6⟩
  | 7, hr => cases hr; exact ⟨jgw jin_X7 (by decide +kernel), ⟨tyX7, tyX7_ok⟩, nmX7⟩
  | 8, hr => cases hr; exact ⟨jgw jin_X8 (by decide +kernel), ⟨tyX8, tyX8_ok⟩, nmX8⟩
  | 9, hr => cases hr; exact ⟨jgw jin_X9 (by decide +kernel), ⟨tyX9, tyX9_ok⟩, nmX9⟩
  | n + 10, hr => simp [vwCl] at hr
/-- a field by its link: its owner's number, its slot, its descriptor, whether it is final -/
def JFld (own : String) (idx ci k : Nat) (D : String) (fin : Bool) : Prop := ci < 50 ∧ ∃ r : vw_C, vwCl[ci]? = some r ∧ k < r.2.2 ∧ (r.2.1 k).2.2.1 = D ∧ (r.2.1 k).2.2.2 = fin ∧ (Cond.fieldLink own idx (r.2.1 k).1 (r.2.1 k).2.1 (r.2.1 k).2.2.1 ∈ TBg ∨ ∃ host : String, Cond.fieldLinkNest own idx (r.2.1 k).1 (r.2.1 k).2.1 (r.2.1 k).2.2.1 host ∈ lw_tbl)
theorem JFld.sort {own : String} {idx ci k : Nat} {D : String} {fin : Bool} (h : JFld own idx ci k D fin) : ssort ci k = jsort D := by
  obtain ⟨h50, r, hr, -, hD, -, -⟩ := h
  unfold ssort
  rw [if_pos h50, hr]
  show jsort (r.2.1 k).2.2.1 = _
  rw [hD]
theorem jat_obj {x : JX} {h : JH} {k : Nat} {q : Nat × Nat} {H : Heap} (hq : q.1 < 50) (hj : jat x h k q H) : (∃ r : vw_C, vwCl[q.1]? = some r ∧ r.2.2 = q.2) ∧ t_OB (xB x + k) (xC x q.1) q.2 (xI x q.1) H (fun j => jval x h (ssort q.1 j) k j) := by
  unfold jat at hj
  rw [if_pos hq] at hj
  exact hj
section JHP
variable {x : JX} {y : MethodName} {cc : ByteArray} {nL : Nat} {rt : Option FieldType} {d ck cs : Nat} {Q : Option Value → JH → Prop} {pc pq : Nat} {ls : List (Option Value)} {st : List Value} {h : JH}
theorem J_get {idx ci k o N : Nat} {D : String} {fin : Bool} {v : Value} (hd : decode cc pc = .ok (.getfield idx, 3)) (hp : pc + 3 = pq) (hF : JFld y.cls idx ci k D fin) (ho : (kd h)[o]? = some (ci, N)) (hv : ∀ x : JX, jval x h (jsort D) o k = mv x v) (kk : J x y cc nL rt d ck cs Q pq ls (v :: st) h) : J x y cc nL rt d ck cs Q pc ls (.ref o :: st) h := by
  subst hp
  intro p l e R s m args below meth c H locs cells slots mc ms lsA E h1 h2 h3 h4 h5
  have hgo := kk p l e R s m args below meth c H locs cells slots mc ms lsA E h1 h2 h3 h4 h5
  have hso := hF.sort
  obtain ⟨h50, r, hr, hk, hD, -, hlk⟩ := hF
  obtain ⟨⟨r', hr', hN⟩, cell, q1, q2, q3, q4⟩ := jat_obj h50 (h4.2.2 o _ ho)
  cases hr.symm.trans hr'
  obtain ⟨hS, hfc, kC, hkC, hkind⟩ := E.2.2.2.2.2.2.2.2.2.2.2.2.1.1 ci r hr
  obtain ⟨cf, kf, fi, f, hi, hsl⟩ := hS k hk
  obtain ⟨hin, -, -⟩ := jcls ci r hr
  have hst := (u_facts hfc hkC (u_lays E.2.2.2.2.2.2.2.1 hin hk) hi).1
  have hv2 : cell.slots[f.slot]? = some (mv x v) := by
    rw [hsl, q4 k (by rw [← hN]; exact hk)]
    show some (jval x h (ssort ci k) o k) = _
    rw [hso, hv x]
  show W p l e R s m args below meth c H locs cells slots _ (F0 m pc lsA (mv x (.ref o) :: st.map (mv x)))
  rw [mv_ref h4 ho]
  rcases hlk with hlk | ⟨host, hlk⟩
  · exact W.getf E.1 E.2.1 E.2.2.2.2.2.2.1 (E.2.2.2.2.2.2.2.1 _ hlk) hi hst q1 (by rw [q3]; exact fun h => by cases h) hv2 rfl rfl hd hgo
  · exact va_Wgetf E.1 E.2.1 E.2.2.2.2.2.2.1 (va_Nw.use rfl (E.2.2.2.2.2.2.2.2.2.2.2.2.2.1 _ hlk rfl)) hi hst q1 (by rw [q3]; exact fun h => by cases h) hv2 rfl rfl hd hgo
theorem J_getI {idx ci k o N : Nat} {D : String} {fin : Bool} (hd : decode cc pc = .ok (.getfield idx, 3)) (hp : pc + 3 = pq) (hF : JFld y.cls idx ci k D fin) (hD : jsort D = 0) (ho : (kd h)[o]? = some (ci, N)) (kk : J x y cc nL rt d ck cs Q pq ls (.int (gi h o k) :: st) h) : J x y cc nL rt d ck cs Q pc ls (.ref o :: st) h :=
  J_get hd hp hF ho (fun x => by rw [hD]; rfl) kk
theorem J_getL {idx ci k o N : Nat} {D : String} {fin : Bool} (hd : decode cc pc = .ok (.getfield idx, 3)) (hp : pc + 3 = pq) (hF : JFld y.cls idx ci k D fin) (hD : jsort D = 1) (ho : (kd h)[o]? = some (ci, N)) (kk : J x y cc nL rt d ck cs Q pq ls (.long (gl h o k) :: st) h) : J x y cc nL rt d ck cs Q pc ls (.ref o :: st) h :=
  J_get hd hp hF ho (fun x => by rw [hD]; rfl) kk
theorem J_getR {idx ci k o N : Nat} {D : String} {fin : Bool} {r : Option Nat} (hd : decode cc pc = .ok (.getfield idx, 3)) (hp : pc + 3 = pq) (hF : JFld y.cls idx ci k D fin) (hD : jsort D = 2) (ho : (kd h)[o]? = some (ci, N)) (hr : gr h o k = r) (kk : J x y cc nL rt d ck cs Q pq ls (va_rf r :: st) h) : J x y cc nL rt d ck cs Q pc ls (.ref o :: st) h :=
  J_get hd hp hF ho (fun x => by rw [hD, ← hr]; rfl) kk
/-- a field of an object is written -/
theorem J_put {idx ci k o N : Nat} {D : String} {fin : Bool} {v : Value} {h' : JH} {ty : FieldType} (hd : decode cc pc = .ok (.putfield idx, 3)) (hp : pc + 3 = pq) (hF : JFld y.cls idx ci k D fin) (hfin : fin = false ∨ (y.name = "<init>" ∧ ∃ r : vw_C, vwCl[ci]? = some r ∧ (r.2.1 k).1 = y.cls)) (ho : (kd h)[o]? = some (ci, N)) (hty : parseFieldDescriptor D = some ty) (hn : ∀ x : JX, narrow ty (mv x v) = mv x v) (hfit : ∀ x : JX, fits ty (mv x v) = true)
    (hk' : kd h' = kd h) (hv : ∀ x : JX, jval x h' (jsort D) o k = mv x v) (hv2 : ∀ (x : JX) (s j : Nat), j ≠ k → jval x h' s o j = jval x h s o j) (hv3 : ∀ (x : JX) (a : Nat), a ≠ o → ∀ s j, jval x h' s a j = jval x h s a j)
    (kk : J x y cc nL rt d ck cs Q pq ls st h') : J x y cc nL rt d ck cs Q pc ls (v :: .ref o :: st) h := by
  subst hp
  intro p l e R s m args below meth c H locs cells slots mc ms lsA E h1 h2 h3 h4 h5
  have hso := hF.sort
  obtain ⟨h50, r, hr, hk, hD, hfl, hlk⟩ := hF
  have hjo := jat_obj h50 (h4.2.2 o _ ho)
  obtain ⟨⟨r', hr', hN⟩, cell, q1, q2, q3, q4⟩ := hjo
  cases hr.symm.trans hr'
  obtain ⟨hS, hfc, kC, hkC, hkind⟩ := E.2.2.2.2.2.2.2.2.2.2.2.2.1.1 ci r hr
  obtain ⟨cf, kf, fi, f, hi, hsl⟩ := hS k hk
  obtain ⟨hin, ⟨ty0, hty0⟩, hnm⟩ := jcls ci r hr
  have hts := E.2.2.2.2.2.2.2.1
  have hap := va_apart (D := (xC x, xI x)) (cl := vwCl) (own := y.cls) hts hin ty0 hty0 hnm E.2.2.2.2.2.2.2.2.2.2.2.2.1 hr
  have hlay := hts _ (hin _ (u_in_lay hk))
  unfold u_lay at hlay
  have hst := (u_facts hfc hkC (u_lays hts hin hk) hi).1
  have hty' : parseFieldDescriptor (r.2.1 k).2.2.1 = some ty := by rw [hD]; exact hty
  show W p l e R s m args below meth c H locs cells slots _ (F0 m pc lsA (mv x v :: mv x (.ref o) :: st.map (mv x)))
  rw [mv_ref h4 ho]
  have hend : ∀ H' : Heap, H'[xB x + o]? = some (cell.setSlot f.slot (mv x v)) → H'.size = H.size → (∀ q, q ≠ xB x + o → H'[q]? = H[q]?) → W p l e R s m args below meth c H' (locs ++ [⟨xB x + o, f.slot⟩]) cells slots (MQ below (JQc x Q) args s mc ms (xF x)) (F0 m (pc + 3) lsA (st.map (mv x))) := by
    intro H' e1 e2 e3
    rw [hsl] at e1
    refine kk p l e R s m args below meth c H' _ cells slots mc ms lsA E h1 h2 (h3.put e2 e3 (Nat.le_add_right _ _)) ?_ h5
    refine h4.set ho hk' e2 ?_ e3 (fun a ha s j => hv3 x a ha s j)
    unfold jat
    rw [if_pos h50]
    refine ⟨⟨r, hr, hN⟩, _, e1, q2, q3, fun j hj => ?_⟩
    rw [t_set q4 (fun a b ha hb hne => hap a b (by rw [hN]; exact ha) (by rw [hN]; exact hb) hne) (by rw [← hN]; exact hk) (mv x v) j hj]
    congr 1
    unfold updV
    by_cases hjk : j = k
    · subst hjk
      rw [if_pos rfl]
      show mv x v = jval x h' (ssort ci j) o j
      rw [hso, hv x]
    · rw [if_neg hjk]
      show jval x h (ssort ci j) o j = jval x h' (ssort ci j) o j
      rw [hv2 x _ j hjk]
  rcases Bool.eq_false_or_eq_true fin with hft | hff
  · rcases hfin with hfin | ⟨hini, r2, hr2, hown2⟩
    · rw [hfin] at hft; cases hft
    cases hr.symm.trans hr2
    rw [if_pos (by rw [hfl]; exact hft)] at hlay
    have hcf : m.cls = cf := by
      obtain ⟨_, _, c', _, _, _, -, -, hf', -, -, -, hown3, -⟩ := Cond.laysFinal_spec hlay
      have e1 : c' = cf := by have := hi.symm.trans hf'; simp at this; exact this.1.symm
      rw [hown2] at hown3
      rw [← e1]; exact Option.some.inj (E.2.2.2.2.2.2.1.symm.trans hown3)
    have h6 := u_fits hfc hkC hkind (Or.inr hlay) hi hty' (hn x) (hfit x)
    have hne : meth.name = "<init>" := E.2.2.2.2.2.1.trans hini
    rcases hlk with hlk | ⟨host, hlk⟩
    · exact W.putFinK E.1 E.2.1 E.2.2.2.2.2.2.1 (hts _ hlk) hi hst hcf hne (by rw [q2]; exact h6) q1 q3 (by rw [hsl]; exact k2_hasslot (q4 k (by rw [← hN]; exact hk))) rfl rfl hd hend
    · refine va_Wputf E.1 E.2.1 E.2.2.2.2.2.2.1 (va_Nw.use rfl (E.2.2.2.2.2.2.2.2.2.2.2.2.2.1 _ hlk rfl)) hi hst (Or.inr ⟨hcf, hne⟩) q1 (by rw [q3]; exact fun h => by cases h) (by rw [hsl]; exact k2_hasslot (q4 k (by rw [← hN]; exact hk))) h6.1 (by rw [q2, q3]; exact h6.2) rfl rfl hd ?_
      have ha : xB x + o < H.size := (Array.getElem?_eq_some_iff.mp q1).1
      refine hend _ ?_ ?_ ?_
      · simp [Array.getElem?_setIfInBounds, ha]
      · simp
      · intro q hq
        simp [Array.getElem?_setIfInBounds, Ne.symm hq]
  · rw [if_neg (by rw [hfl, hff]; decide)] at hlay
    have h6 := u_store hfc hkC hkind hlay hi hty' (hn x) (hfit x)
    rcases hlk with hlk | ⟨host, hlk⟩
    · exact W.putK E.1 E.2.1 (f := f) ⟨E.2.2.2.2.2.2.1, hts _ hlk, ⟨_, _, _, hi⟩, hst⟩ (by rw [q2]; exact h6) q1 q3 (by rw [hsl]; exact k2_hasslot (q4 k (by rw [← hN]; exact hk))) rfl rfl hd hend
    · exact va_WputK E.1 E.2.1 (f := f) E.2.2.2.2.2.2.1 (va_Nw.use rfl (E.2.2.2.2.2.2.2.2.2.2.2.2.2.1 _ hlk rfl)) hi hst (by rw [q2]; exact h6) q1 q3 (by rw [hsl]; exact k2_hasslot (q4 k (by rw [← hN]; exact hk))) rfl rfl hd hend
theorem jsI : jsort "I" = 0 := by decide +kernel
theorem jsZ : jsort "Z" = 0 := by decide +kernel
theorem jsJ : jsort "J" = 1 := by decide +kernel
theorem pfI : parseFieldDescriptor "I" = some .int := by decide +kernel
theorem pfZ : parseFieldDescriptor "Z" = some .boolean := by decide +kernel
theorem pfJ : parseFieldDescriptor "J" = some .long := by decide +kernel
theorem J_putI {idx ci k o N : Nat} {v : Int32} (hd : decode cc pc = .ok (.putfield idx, 3)) (hp : pc + 3 = pq) {fin : Bool} (hF : JFld y.cls idx ci k "I" fin) (hfin : fin = false ∨ (y.name = "<init>" ∧ ∃ r : vw_C, vwCl[ci]? = some r ∧ (r.2.1 k).1 = y.cls)) (ho : (kd h)[o]? = some (ci, N)) (kk : J x y cc nL rt d ck cs Q pq ls st (si h o k v)) : J x y cc nL rt d ck cs Q pc ls (.int v :: .ref o :: st) h :=
  J_put (h' := si h o k v) hd hp hF hfin ho pfI (fun _ => rfl) (fun _ => rfl) rfl (fun x => by rw [jsI, jval_si, if_pos ⟨rfl, rfl, rfl⟩]; rfl) (fun x s j hj => by rw [jval_si, if_neg (fun a => hj a.2.2)]) (fun x a ha s j => by rw [jval_si, if_neg (fun b => ha b.2.1)]) kk
theorem J_putZ {idx ci k o N : Nat} {v : Int32} (hd : decode cc pc = .ok (.putfield idx, 3)) (hp : pc + 3 = pq) {fin : Bool} (hF : JFld y.cls idx ci k "Z" fin) (hfin : fin = false ∨ (y.name = "<init>" ∧ ∃ r : vw_C, vwCl[ci]? = some r ∧ (r.2.1 k).1 = y.cls)) (ho : (kd h)[o]? = some (ci, N)) (hz : v = 0 ∨ v = 1) (kk : J x y cc nL rt d ck cs Q pq ls st (si h o k v)) : J x y cc nL rt d ck cs Q pc ls (.int v :: .ref o :: st) h :=
  J_put (h' := si h o k v) hd hp hF hfin ho pfZ (fun _ => by rcases hz with rfl | rfl <;> rfl) (fun _ => by rcases hz with rfl | rfl <;> rfl) rfl (fun x => by rw [jsZ, jval_si, if_pos ⟨rfl, rfl, rfl⟩]; rfl) (fun x s j hj => by rw [jval_si, if_neg (fun a => hj a.2.2)]) (fun x a ha s j => by rw [jval_si, if_neg (fun b => ha b.2.1)]) kk
theorem J_putL {idx ci k o N : Nat} {v : Int64} (hd : decode cc pc = .ok (.putfield idx, 3)) (hp : pc + 3 = pq) {fin : Bool} (hF : JFld y.cls idx ci k "J" fin) (hfin : fin = false ∨ (y.name = "<init>" ∧ ∃ r : vw_C, vwCl[ci]? = some r ∧ (r.2.1 k).1 = y.cls)) (ho : (kd h)[o]? = some (ci, N)) (kk : J x y cc nL rt d ck cs Q pq ls st (sl h o k v)) : J x y cc nL rt d ck cs Q pc ls (.long v :: .ref o :: st) h :=
  J_put (h' := sl h o k v) hd hp hF hfin ho pfJ (fun _ => rfl) (fun _ => rfl) rfl (fun x => by rw [jsJ, jval_sl, if_pos ⟨rfl, rfl, rfl⟩]; rfl) (fun x s j hj => by rw [jval_sl, if_neg (fun a => hj a.2.2)]) (fun x a ha s j => by rw [jval_sl, if_neg (fun b => ha b.2.1)]) kk
def JRf (D : String) : Prop := jsort D = 2 ∧ ∃ ty : FieldType, parseFieldDescriptor D = some ty ∧ ((∃ n, ty = .object n) ∨ ∃ t, ty = .array t)
theorem J_putR {idx ci k o N r : Nat} {D : String} (hd : decode cc pc = .ok (.putfield idx, 3)) (hp : pc + 3 = pq) {fin : Bool} (hF : JFld y.cls idx ci k D fin) (hfin : fin = false ∨ (y.name = "<init>" ∧ ∃ r : vw_C, vwCl[ci]? = some r ∧ (r.2.1 k).1 = y.cls)) (ho : (kd h)[o]? = some (ci, N)) (hD : JRf D) (kk : J x y cc nL rt d ck cs Q pq ls st (sr h o k (some r))) : J x y cc nL rt d ck cs Q pc ls (.ref r :: .ref o :: st) h := by
  obtain ⟨hs, ty, hty, hcase⟩ := hD
  refine J_put (h' := sr h o k (some r)) hd hp hF hfin ho hty (fun _ => ?_) (fun _ => ?_) rfl (fun x => by rw [hs, jval_sr, if_pos ⟨by omega, rfl, rfl⟩]; rfl) (fun x s j hj => by rw [jval_sr, if_neg (fun a => hj a.2.2)]) (fun x a ha s j => by rw [jval_sr, if_neg (fun b => ha b.2.1)]) kk
  · rcases hcase with ⟨n, rfl⟩ | ⟨t, rfl⟩ <;> rfl
  · rcases hcase with ⟨n, rfl⟩ | ⟨t, rfl⟩ <;> rfl
end JHP
end
section
section JAR
variable {x : JX} {y : MethodName} {cc : ByteArray} {nL : Nat} {rt : Option FieldType} {d ck cs : Nat} {Q : Option Value → JH → Prop} {pc pq : Nat} {ls : List (Option Value)} {st : List Value} {h : JH}
abbrev ix (i : Int32) : Nat := i.toNatClampNeg
theorem ss50 : ssort 50 0 = 0 := rfl
theorem ss51 : ssort 51 0 = 1 := rfl
theorem ss52 : ssort 52 0 = 0 := rfl
theorem ss53 : ssort 53 0 = 2 := rfl
theorem ss54 : ssort 54 0 = 2 := rfl
theorem arrV_in {cI : ClassId} {n : Nat} {f : Nat → Value} {i : Int32} (hin : vp_in i n) : ¬ (i < 0 ∨ (arrV cI n f).slots.size ≤ i.toNatClampNeg) := by rw [arrV_size]; exact hin
theorem arrV_at {cI : ClassId} {n : Nat} {f : Nat → Value} {i : Int32} (hin : vp_in i n) : (arrV cI n f).slots[i.toNatClampNeg]? = some (f i.toNatClampNeg) := arrV_read _ _ (Nat.not_le.mp fun q => hin (Or.inr q))
theorem J_iald {a n : Nat} {i : Int32} (hd : decode cc pc = .ok (.iaload, 1)) (hp : pc + 1 = pq) (ha : (kd h)[a]? = some (50, n)) (hin : vp_in i n) (kk : J x y cc nL rt d ck cs Q pq ls (.int (gi h a (ix i)) :: st) h) : J x y cc nL rt d ck cs Q pc ls (.int i :: .ref a :: st) h := by
  subst hp
  intro p l e R s m args below meth c H locs cells slots mc ms lsA E h1 h2 h3 h4 h5
  show W p l e R s m args below meth c H locs cells slots _ (F0 m pc lsA (.int i :: mv x (.ref a) :: st.map (mv x)))
  rw [mv_ref h4 ha]
  exact W.iald E.1 E.2.1 (jat_arr (by decide) (h4.2.2 a _ ha)) ((E.2.2.2.2.2.2.2.2.2.2.2.2.1.2 0 _ rfl).1 n _) (fun q => by cases q) (arrV_in hin) (arrV_at hin) rfl rfl hd (kk p l e R s m args below meth c H locs cells slots mc ms lsA E h1 h2 h3 h4 h5)
theorem J_lald {a n : Nat} {i : Int32} (hd : decode cc pc = .ok (.laload, 1)) (hp : pc + 1 = pq) (ha : (kd h)[a]? = some (51, n)) (hin : vp_in i n) (kk : J x y cc nL rt d ck cs Q pq ls (.long (gl h a (ix i)) :: st) h) : J x y cc nL rt d ck cs Q pc ls (.int i :: .ref a :: st) h := by
  subst hp
  intro p l e R s m args below meth c H locs cells slots mc ms lsA E h1 h2 h3 h4 h5
  show W p l e R s m args below meth c H locs cells slots _ (F0 m pc lsA (.int i :: mv x (.ref a) :: st.map (mv x)))
  rw [mv_ref h4 ha]
  exact W.lald E.1 E.2.1 (jat_arr (by decide) (h4.2.2 a _ ha)) ((E.2.2.2.2.2.2.2.2.2.2.2.2.1.2 1 _ rfl).1 n _) (fun q => by cases q) (arrV_in hin) (arrV_at hin) rfl rfl hd (kk p l e R s m args below meth c H locs cells slots mc ms lsA E h1 h2 h3 h4 h5)
theorem J_zald {a n : Nat} {i : Int32} (hd : decode cc pc = .ok (.baload, 1)) (hp : pc + 1 = pq) (ha : (kd h)[a]? = some (52, n)) (hin : vp_in i n) (kk : J x y cc nL rt d ck cs Q pq ls (.int (gi h a (ix i)) :: st) h) : J x y cc nL rt d ck cs Q pc ls (.int i :: .ref a :: st) h := by
  subst hp
  intro p l e R s m args below meth c H locs cells slots mc ms lsA E h1 h2 h3 h4 h5
  show W p l e R s m args below meth c H locs cells slots _ (F0 m pc lsA (.int i :: mv x (.ref a) :: st.map (mv x)))
  rw [mv_ref h4 ha]
  exact W.zald E.1 E.2.1 (jat_arr (by decide) (h4.2.2 a _ ha)) ((E.2.2.2.2.2.2.2.2.2.2.2.2.1.2 2 _ rfl).1 n _) (fun q => by cases q) (arrV_in hin) (arrV_at hin) rfl rfl hd (kk p l e R s m args below meth c H locs cells slots mc ms lsA E h1 h2 h3 h4 h5)
/-- rows of references: kind 53 or 54 -/
theorem J_aald {a n q : Nat} {i : Int32} {r : Option Nat} (hq : q = 53 ∨ q = 54) (hd : decode cc pc = .ok (.aaload, 1)) (hp : pc + 1 = pq) (ha : (kd h)[a]? = some (q, n)) (hin : vp_in i n) (hr : gr h a (ix i) = r) (kk : J x y cc nL rt d ck cs Q pq ls (va_rf r :: st) h) : J x y cc nL rt d ck cs Q pc ls (.int i :: .ref a :: st) h := by
  subst hp
  subst hr
  intro p l e R s m args below meth c H locs cells slots mc ms lsA E h1 h2 h3 h4 h5
  show W p l e R s m args below meth c H locs cells slots _ (F0 m pc lsA (.int i :: mv x (.ref a) :: st.map (mv x)))
  rw [mv_ref h4 ha]
  rcases hq with rfl | rfl
  · exact W.aald (ty := .object RX0) E.1 E.2.1 (jat_arr (by decide) (h4.2.2 a _ ha)) ((E.2.2.2.2.2.2.2.2.2.2.2.2.1.2 3 _ rfl).1 n _) rfl (fun q => by cases q) (arrV_in hin) (arrV_at hin) rfl rfl hd (kk p l e R s m args below meth c H locs cells slots mc ms lsA E h1 h2 h3 h4 h5)
  · exact W.aald (ty := .object RX4) E.1 E.2.1 (jat_arr (by decide) (h4.2.2 a _ ha)) ((E.2.2.2.2.2.2.2.2.2.2.2.2.1.2 4 _ rfl).1 n _) rfl (fun q => by cases q) (arrV_in hin) (arrV_at hin) rfl rfl hd (kk p l e R s m args below meth c H locs cells slots mc ms lsA E h1 h2 h3 h4 h5)
theorem J_iast {a n : Nat} {i v : Int32} (hd : decode cc pc = .ok (.iastore, 1)) (hp : pc + 1 = pq) (ha : (kd h)[a]? = some (50, n)) (hin : vp_in i n) (kk : J x y cc nL rt d ck cs Q pq ls st (si h a (ix i) v)) : J x y cc nL rt d ck cs Q pc ls (.int v :: .int i :: .ref a :: st) h := by
  subst hp
  intro p l e R s m args below meth c H locs cells slots mc ms lsA E h1 h2 h3 h4 h5
  show W p l e R s m args below meth c H locs cells slots _ (F0 m pc lsA (.int v :: .int i :: mv x (.ref a) :: st.map (mv x)))
  rw [mv_ref h4 ha]
  refine W.iast E.1 E.2.1 (jat_arr (by decide) (h4.2.2 a _ ha)) ((E.2.2.2.2.2.2.2.2.2.2.2.2.1.2 0 _ rfl).1 n _) (fun q => by cases q) (arrV_in hin) rfl rfl hd fun H' e1 e2 e3 => ?_
  refine kk p l e R s m args below meth c H' _ cells slots mc ms lsA E h1 h2 (h3.put e2 e3 (Nat.le_add_right _ _)) ?_ h5
  refine h4.set ha rfl e2 (jat_arr' (by decide) ?_) e3 (fun b hb s j => by rw [jval_si, if_neg (fun a => hb a.2.1)])
  rw [e1, arrV_store]
  congr 2
  funext j
  rw [ss50, jval_si]
  unfold updV
  by_cases hj : j = i.toNatClampNeg
  · rw [if_pos hj, if_pos ⟨rfl, rfl, hj⟩]
  · rw [if_neg hj, if_neg (fun a => hj a.2.2)]
theorem J_last {a n : Nat} {i : Int32} {v : Int64} (hd : decode cc pc = .ok (.lastore, 1)) (hp : pc + 1 = pq) (ha : (kd h)[a]? = some (51, n)) (hin : vp_in i n) (kk : J x y cc nL rt d ck cs Q pq ls st (sl h a (ix i) v)) : J x y cc nL rt d ck cs Q pc ls (.long v :: .int i :: .ref a :: st) h := by
  subst hp
  intro p l e R s m args below meth c H locs cells slots mc ms lsA E h1 h2 h3 h4 h5
  show W p l e R s m args below meth c H locs cells slots _ (F0 m pc lsA (.long v :: .int i :: mv x (.ref a) :: st.map (mv x)))
  rw [mv_ref h4 ha]
  refine W.last E.1 E.2.1 (jat_arr (by decide) (h4.2.2 a _ ha)) ((E.2.2.2.2.2.2.2.2.2.2.2.2.1.2 1 _ rfl).1 n _) (fun q => by cases q) (arrV_in hin) rfl rfl hd fun H' e1 e2 e3 => ?_
  refine kk p l e R s m args below meth c H' _ cells slots mc ms lsA E h1 h2 (h3.put e2 e3 (Nat.le_add_right _ _)) ?_ h5
  refine h4.set ha rfl e2 (jat_arr' (by decide) ?_) e3 (fun b hb s j => by rw [jval_sl, if_neg (fun a => hb a.2.1)])
  rw [e1, arrV_store]
  congr 2
  funext j
  rw [ss51, jval_sl]
  unfold updV
  by_cases hj : j = i.toNatClampNeg
  · rw [if_pos hj, if_pos ⟨rfl, rfl, hj⟩]
  · rw [if_neg hj, if_neg (fun a => hj a.2.2)]
theorem J_zast {a n : Nat} {i v : Int32} (hd : decode cc pc = .ok (.bastore, 1)) (hp : pc + 1 = pq) (ha : (kd h)[a]? = some (52, n)) (hin : vp_in i n) (kk : J x y cc nL rt d ck cs Q pq ls st (si h a (ix i) (v &&& 1))) : J x y cc nL rt d ck cs Q pc ls (.int v :: .int i :: .ref a :: st) h := by
  subst hp
  intro p l e R s m args below meth c H locs cells slots mc ms lsA E h1 h2 h3 h4 h5
  show W p l e R s m args below meth c H locs cells slots _ (F0 m pc lsA (.int v :: .int i :: mv x (.ref a) :: st.map (mv x)))
  rw [mv_ref h4 ha]
  refine W.zast E.1 E.2.1 (jat_arr (by decide) (h4.2.2 a _ ha)) ((E.2.2.2.2.2.2.2.2.2.2.2.2.1.2 2 _ rfl).1 n _) (fun q => by cases q) (arrV_in hin) rfl rfl hd fun H' e1 e2 e3 => ?_
  refine kk p l e R s m args below meth c H' _ cells slots mc ms lsA E h1 h2 (h3.put e2 e3 (Nat.le_add_right _ _)) ?_ h5
  refine h4.set ha rfl e2 (jat_arr' (by decide) ?_) e3 (fun b hb s j => by rw [jval_si, if_neg (fun a => hb a.2.1)])
  rw [e1, arrV_store]
  congr 2
  funext j
  rw [ss52, jval_si]
  unfold updV
  by_cases hj : j = i.toNatClampNeg
  · rw [if_pos hj, if_pos ⟨rfl, rfl, hj⟩]; rfl
  · rw [if_neg hj, if_neg (fun a => hj a.2.2)]
theorem J_aast {a n q ci r N : Nat} {i : Int32} (hq : (q = 53 ∧ ci = 0) ∨ (q = 54 ∧ ci = 4)) (hd : decode cc pc = .ok (.aastore, 1)) (hp : pc + 1 = pq) (ha : (kd h)[a]? = some (q, n)) (hr : (kd h)[r]? = some (ci, N)) (hin : vp_in i n) (kk : J x y cc nL rt d ck cs Q pq ls st (sr h a (ix i) (some r))) : J x y cc nL rt d ck cs Q pc ls (.ref r :: .int i :: .ref a :: st) h := by
  subst hp
  intro p l e R s m args below meth c H locs cells slots mc ms lsA E h1 h2 h3 h4 h5
  show W p l e R s m args below meth c H locs cells slots _ (F0 m pc lsA (mv x (.ref r) :: .int i :: mv x (.ref a) :: st.map (mv x)))
  have hmr : mv x (.ref r) = .ref (xB x + r) := mv_ref h4 hr
  rw [mv_ref h4 ha, hmr]
  have hq50 : 50 ≤ q ∧ ci < 50 ∧ ssort q 0 = 2 := by rcases hq with ⟨rfl, rfl⟩ | ⟨rfl, rfl⟩ <;> decide
  obtain ⟨⟨rr, hrr, hN⟩, cellV, g1, g2, g3, -⟩ := jat_obj hq50.2.1 (h4.2.2 r _ hr)
  have hcls := (E.2.2.2.2.2.2.2.2.2.2.2.2.1.1 ci rr hrr).2
  obtain ⟨t0, ht0⟩ : ∃ t0 : Nat, (jtys x)[t0]? = some (xA x q, .object rr.1) := by
    rcases hq with ⟨rfl, rfl⟩ | ⟨rfl, rfl⟩ <;> cases hrr
    · exact ⟨3, rfl⟩
    · exact ⟨4, rfl⟩
  obtain ⟨kA, comp, k1, k2, k3, -⟩ := (E.2.2.2.2.2.2.2.2.2.2.2.2.1.2 t0 _ ht0).2
  have hcomp : comp = xC x ci := Option.some.inj (k3.symm.trans hcls.1)
  subst hcomp
  obtain ⟨kC, hkC, -⟩ := hcls.2
  have hlt : i.toNatClampNeg < n := Nat.not_le.mp fun q => hin (Or.inr q)
  have h0 : ¬ i < 0 := fun q => hin (Or.inl q)
  refine W.aast E.1 E.2.1 (jat_arr hq50.1 (h4.2.2 a _ ha)) (fun q h => by cases h) (fun h => by cases h) k1 k2 rfl hkC ⟨h0, by rw [arrV_size]; exact hlt⟩ g1 (fun q h => by rw [g3] at h; cases h) (by rw [g2]; exact hkC) (by rw [g2]; exact va_assign hcls) rfl rfl hd fun H' e1 e2 e3 => ?_
  refine kk p l e R s m args below meth c H' _ cells slots mc ms lsA E h1 h2 (h3.put e2 e3 (Nat.le_add_right _ _)) ?_ h5
  refine h4.set ha rfl e2 (jat_arr' hq50.1 ?_) e3 (fun b hb s j => by rw [jval_sr, if_neg (fun a => hb a.2.1)])
  rw [e1, arrV_store]
  congr 2
  funext j
  rw [hq50.2.2, jval_sr]
  unfold updV
  by_cases hj : j = i.toNatClampNeg
  · rw [if_pos hj, if_pos ⟨by omega, rfl, hj⟩]
    exact hmr.symm
  · rw [if_neg hj, if_neg (fun a => hj a.2.2)]
theorem J_alen {a n q : Nat} {v : Int32} (hd : decode cc pc = .ok (.arraylength, 1)) (hp : pc + 1 = pq) (ha : (kd h)[a]? = some (q, n)) (hq : q = 50 ∨ q = 51 ∨ q = 52) (hv : Int32.ofNat n = v) (kk : J x y cc nL rt d ck cs Q pq ls (.int v :: st) h) : J x y cc nL rt d ck cs Q pc ls (.ref a :: st) h := by
  subst hp
  intro p l e R s m args below meth c H locs cells slots mc ms lsA E h1 h2 h3 h4 h5
  show W p l e R s m args below meth c H locs cells slots _ (F0 m pc lsA (mv x (.ref a) :: st.map (mv x)))
  rw [mv_ref h4 ha]
  have hq50 : 50 ≤ q := by rcases hq with rfl | rfl | rfl <;> decide
  have hgo := kk p l e R s m args below meth c H locs cells slots mc ms lsA E h1 h2 h3 h4 h5
  have hT := E.2.2.2.2.2.2.2.2.2.2.2.2.1.2
  rcases hq with rfl | rfl | rfl
  · exact W.alen (n := v) E.1 E.2.1 (jat_arr hq50 (h4.2.2 a _ ha)) ((hT 0 _ rfl).1 n _) (by rw [arrV_size]; exact hv) rfl rfl hd hgo
  · exact W.alen (n := v) E.1 E.2.1 (jat_arr hq50 (h4.2.2 a _ ha)) ((hT 1 _ rfl).1 n _) (by rw [arrV_size]; exact hv) rfl rfl hd hgo
  · exact W.alen (n := v) E.1 E.2.1 (jat_arr hq50 (h4.2.2 a _ ha)) ((hT 2 _ rfl).1 n _) (by rw [arrV_size]; exact hv) rfl rfl hd hgo
-- the script
theorem J_sld {i : Int32} (hd : decode cc pc = .ok (.iaload, 1)) (hp : pc + 1 = pq) (hin : vp_in i (xL x)) (kk : J x y cc nL rt d ck cs Q pq ls (.int (xS x (ix i)) :: st) h) : J x y cc nL rt d ck cs Q pc ls (.int i :: .ref 1000000000 :: st) h := by
  subst hp
  intro p l e R s m args below meth c H locs cells slots mc ms lsA E h1 h2 h3 h4 h5
  obtain ⟨-, -, -, -, hb0, hX, hx0, -⟩ := E.2.2.2.2.2.2.2.2.2.2.2.2
  exact va_sld E.1 E.2.1 hX (Nat.lt_of_lt_of_le hx0 hb0) (Nat.not_le.mpr hx0) h3 hin hd (kk p l e R s m args below meth c H locs cells slots mc ms lsA E h1 h2 h3 h4 h5)
theorem J_slen {v : Int32} (hd : decode cc pc = .ok (.arraylength, 1)) (hp : pc + 1 = pq) (hv : Int32.ofNat (xL x) = v) (kk : J x y cc nL rt d ck cs Q pq ls (.int v :: st) h) : J x y cc nL rt d ck cs Q pc ls (.ref 1000000000 :: st) h := by
  subst hp
  subst hv
  intro p l e R s m args below meth c H locs cells slots mc ms lsA E h1 h2 h3 h4 h5
  obtain ⟨-, -, -, -, hb0, hX, hx0, -⟩ := E.2.2.2.2.2.2.2.2.2.2.2.2
  exact va_slen E.1 E.2.1 hX (Nat.lt_of_lt_of_le hx0 hb0) (Nat.not_le.mpr hx0) h3 hd (kk p l e R s m args below meth c H locs cells slots mc ms lsA E h1 h2 h3 h4 h5)
-- ends
theorem J_iret {v : Int32} {ty : FieldType} (hd : decode cc pc = .ok (.ireturn, 1)) (hr : rt = some ty) (hn : narrow ty (.int v) = .int v) (hq : Q (some (.int v)) h) : J x y cc nL rt d ck cs Q pc ls [.int v] h := by
  intro p l e R s m args below meth c H locs cells slots mc ms lsA E h1 h2 h3 h4 h5
  refine W.widen (k := mc) (n := ms) (by omega) (by omega) ?_
  exact W.zret E.1 E.2.1 (E.2.2.2.1.trans hr) hn (fun t ht _ => ⟨some (.int v), h, rfl, hq, by rw [ht]; exact h4, h3.F ht⟩) h3.2.2 hd E.2.2.2.2.1
theorem J_lret {v : Int64} (hd : decode cc pc = .ok (.lreturn, 1)) (hr : rt = some .long) (hq : Q (some (.long v)) h) : J x y cc nL rt d ck cs Q pc ls [.long v] h := by
  intro p l e R s m args below meth c H locs cells slots mc ms lsA E h1 h2 h3 h4 h5
  refine W.widen (k := mc) (n := ms) (by omega) (by omega) ?_
  exact W.lret E.1 E.2.1 (E.2.2.2.1.trans hr) (fun t ht _ => ⟨some (.long v), h, rfl, hq, by rw [ht]; exact h4, h3.F ht⟩) h3.2.2 hd E.2.2.2.2.1
theorem J_vret (hd : decode cc pc = .ok (.return_, 1)) (hr : rt = none) (hq : Q none h) : J x y cc nL rt d ck cs Q pc ls [] h := by
  intro p l e R s m args below meth c H locs cells slots mc ms lsA E h1 h2 h3 h4 h5
  refine W.widen (k := mc) (n := ms) (by omega) (by omega) ?_
  exact W.vret E.1 E.2.1 (E.2.2.2.1.trans hr) (fun t ht _ => ⟨none, h, rfl, hq, by rw [ht]; exact h4, h3.F ht⟩) h3.2.2 hd E.2.2.2.2.1
theorem J_aret {v : Value} {ty : FieldType} (hd : decode cc pc = .ok (.areturn, 1)) (hr : rt = some ty) (hty : (∃ n, ty = .object n) ∨ ∃ t, ty = .array t) (hv : v = .null ∨ ∃ a, v = .ref a) (hq : Q (some v) h) : J x y cc nL rt d ck cs Q pc ls [v] h := by
  intro p l e R s m args below meth c H locs cells slots mc ms lsA E h1 h2 h3 h4 h5
  refine W.widen (k := mc) (n := ms) (by omega) (by omega) ?_
  refine W.aret (v := mv x v) E.1 E.2.1 (E.2.2.2.1.trans hr) hty ?_ (fun t ht _ => ⟨some v, h, rfl, hq, by rw [ht]; exact h4, h3.F ht⟩) h3.2.2 hd E.2.2.2.2.1
  rcases hv with rfl | ⟨a, rfl⟩
  · exact Or.inl rfl
  · exact Or.inr ⟨_, rfl⟩
end JAR
end
section
theorem al_kd (h : JH) (q : Nat × Nat) : kd (al h q) = kd h ++ [q] := rfl
theorem jval_al {x : JX} {h : JH} {q : Nat × Nat} {s k j : Nat} (hk : k ≠ (kd h).length) : jval x (al h q) s k j = jval x h s k j := by
  have hk' : ¬ k = h.2.2.2.length := hk
  match s with
  | 0 => show Value.int (if k = h.2.2.2.length then 0 else h.1 k j) = _; rw [if_neg hk']; rfl
  | 1 => show Value.long (if k = h.2.2.2.length then 0 else h.2.1 k j) = _; rw [if_neg hk']; rfl
  | n + 2 => show mv x (va_rf (if k = h.2.2.2.length then none else h.2.2.1 k j)) = _; rw [if_neg hk']; rfl
def jdef (s : Nat) : Value := match s with
  | 0 => .int 0
  | 1 => .long 0
  | _ => .null
theorem jval_new {x : JX} {h : JH} {q : Nat × Nat} {s j : Nat} : jval x (al h q) s (kd h).length j = jdef s := by
  match s with
  | 0 => show Value.int (if h.2.2.2.length = h.2.2.2.length then 0 else _) = _; rw [if_pos rfl]; rfl
  | 1 => show Value.long (if h.2.2.2.length = h.2.2.2.length then 0 else _) = _; rw [if_pos rfl]; rfl
  | n + 2 => show mv x (va_rf (if h.2.2.2.length = h.2.2.2.length then none else _)) = _; rw [if_pos rfl]; rfl
/-- one cell is made -/
theorem JC.push {x : JX} {h : JH} {q : Nat × Nat} {H H' : Heap} (hC : JC x h H) (hl : (kd h).length + 1 < 1000000000) (hz : H'.size = H.size + 1) (hn : jat x (al h q) (kd h).length q H') (oq : ∀ a : Nat, a < H.size → H'[a]? = H[a]?) : JC x (al h q) H' := by
  refine ⟨?_, ?_, fun k q' hq' => ?_⟩
  · rw [hz, hC.1, al_kd, List.length_append]; simp only [List.length_cons, List.length_nil]; omega
  · rw [al_kd, List.length_append]; simpa using hl
  · rw [al_kd] at hq'
    by_cases hk : k < (kd h).length
    · rw [List.getElem?_append_left hk] at hq'
      exact (hC.2.2 k q' hq').kept (oq _ (by rw [hC.1]; omega)) (fun s j => jval_al (by omega))
    · rw [List.getElem?_append_right (by omega)] at hq'
      have hz0 : k - (kd h).length < 1 := (List.getElem?_eq_some_iff.mp hq').1
      have hk0 : k = (kd h).length := by omega
      subst hk0
      rw [Nat.sub_self] at hq'
      cases hq'
      exact hn
theorem jdefault {D : String} {ty : FieldType} (h : parseFieldDescriptor D = some ty) (hc : (D = "I" ∨ D = "Z" ∨ D = "J") ∨ ((∃ n, ty = .object n) ∨ ∃ t, ty = .array t) ∧ jsort D = 2) : defaultValue ty = jdef (jsort D) := by
  rcases hc with (rfl | rfl | rfl) | ⟨⟨n, rfl⟩ | ⟨t, rfl⟩, hs⟩
  · cases pfI.symm.trans h; rw [jsI]; rfl
  · cases pfZ.symm.trans h; rw [jsZ]; rfl
  · cases pfJ.symm.trans h; rw [jsJ]; rfl
  · rw [hs]; rfl
  · rw [hs]; rfl
/-- what each field holds at first -/
def jdefs (r : vw_C) : Bool := (List.range r.2.2).all fun k => match parseFieldDescriptor (r.2.1 k).2.2.1 with
  | some ty => decide (defaultValue ty = jdef (jsort (r.2.1 k).2.2.1))
  | none => false
theorem jdefs_all : vwCl.all jdefs = true := by decide +kernel
theorem jdefs_at {ci : Nat} {r : vw_C} (hr : vwCl[ci]? = some r) {k : Nat} (hk : k < r.2.2) {ty : FieldType} (hty : parseFieldDescriptor (r.2.1 k).2.2.1 = some ty) : defaultValue ty = jdef (jsort (r.2.1 k).2.2.1) := by
  have h1 := List.all_eq_true.mp jdefs_all r (List.mem_of_getElem? hr)
  have h2 := List.all_eq_true.mp h1 k (List.mem_range.mpr hk)
  rw [hty] at h2
  exact of_decide_eq_true h2
section JCA
variable {x : JX} {y : MethodName} {cc : ByteArray} {nL : Nat} {rt : Option FieldType} {d ck cs : Nat} {Q : Option Value → JH → Prop} {pc pq : Nat} {ls : List (Option Value)} {st : List Value} {h : JH}
theorem J_new {idx ci : Nat} {r : vw_C} (hd : decode cc pc = .ok (.new idx, 3)) (hp : pc + 3 = pq) (hr : vwCl[ci]? = some r) (h50 : ci < 50) (hcl : Cond.classLink y.cls idx r.1 ∈ TBg) (hins : Cond.instantiable r.1 r.2.2 ∈ TBg) (hini : Cond.initialized r.1 ∈ TBg) (hl : (kd h).length + 1 < 1000000000) (hck : 1 ≤ ck) (hcs : r.2.2 ≤ cs)
    (kk : J x y cc nL rt d (ck - 1) (cs - r.2.2) Q pq ls (.ref (kd h).length :: st) (al h (ci, r.2.2))) : J x y cc nL rt d ck cs Q pc ls st h := by
  subst hp
  intro p l e R s m args below meth c H locs cells slots mc ms lsA E h1 h2 h3 h4 h5
  have hts := E.2.2.2.2.2.2.2.1
  have hKn := E.2.2.2.2.2.2.2.2.2.2.2.2.1.1 ci r hr
  obtain ⟨hin, ⟨ty0, hty0⟩, hnm⟩ := jcls ci r hr
  have hR1 : mc ≤ R.cells := E.2.2.2.2.2.2.2.2.2.2.1
  have hR2 : ms ≤ R.slots := E.2.2.2.2.2.2.2.2.2.2.2.1
  refine W.newcK E.1 E.2.1 E.2.2.2.2.2.2.1 (hts _ hcl) (hts _ hins) (hts _ hini) rfl hd (by omega) (by omega) hKn.2.1 rfl fun H1 kC hkC e1 z1 o1 => ?_
  have hz : H.size = xB x + (kd h).length := h4.1
  have hgo := kk p l e R s m args below meth c H1 locs (cells + 1) (slots + r.2.2) mc ms lsA E (by omega) (by omega) ⟨Nat.le_trans h3.1 (by omega), fun q g1 g2 => (o1 q (Nat.lt_of_lt_of_le g1 h3.1)).trans (h3.2.1 q g1 g2), h3.2.2⟩ (h4.push hl z1 ?_ o1) h5
  · have hm : mv x (.ref (kd h).length) = .ref H.size := by
      show Value.ref (mr x _) = _
      rw [mr_lt (by omega), hz]
    show W p l e R s m args below meth c H1 locs _ _ _ (F0 m (pc + 3) lsA (.ref H.size :: st.map (mv x)))
    rw [← hm]
    exact hgo
  · unfold jat
    rw [if_pos h50]
    refine ⟨⟨r, hr, rfl⟩, ?_⟩
    rw [hz] at e1
    refine (u_born ty0 hts hin hKn hkC e1 hty0).to (fun k hk => ?_)
    rw [jval_new]
    show _ = jdef (ssort ci k)
    unfold ssort
    rw [if_pos h50, hr]
    exact jdefs_at hr hk (hty0 k hk)
theorem J_newa {q n : Nat} {at0 : ArrayType} {v : Int32} {ty : FieldType} (hd : decode cc pc = .ok (.newarray at0, 2)) (hp : pc + 2 = pq) (hq : (q = 50 ∧ ty = .int) ∨ (q = 51 ∧ ty = .long) ∨ (q = 52 ∧ ty = .boolean)) (hty : newarray.typeOf at0 = ty) (hw : Cond.arrayClass ty ∈ TBg) (hn : ¬ v < 0) (hN : ix v = n) (hb : n ≤ 1000) (hl : (kd h).length + 1 < 1000000000) (hck : 1 ≤ ck) (hcs : n ≤ cs)
    (kk : J x y cc nL rt d (ck - 1) (cs - n) Q pq ls (.ref (kd h).length :: st) (al h (q, n))) : J x y cc nL rt d ck cs Q pc ls (.int v :: st) h := by
  subst hp
  subst hty
  intro p l e R s m args below meth c H locs cells slots mc ms lsA E h1 h2 h3 h4 h5
  have hts := E.2.2.2.2.2.2.2.1
  have hR1 : mc ≤ R.cells := E.2.2.2.2.2.2.2.2.2.2.1
  have hR2 : ms ≤ R.slots := E.2.2.2.2.2.2.2.2.2.2.2.1
  have hbytes : n * componentBytes (newarray.typeOf at0) ≤ 536870912 := by
    rcases hq with ⟨-, h⟩ | ⟨-, h⟩ | ⟨-, h⟩ <;> (rw [h]; simp [componentBytes]; omega)
  refine va_newaK E.1 E.2.1 (hts _ hw) rfl hd rfl hn hN hbytes (by omega) (by omega) rfl fun H1 cA e1 z1 o1 hAr hNm => ?_
  have hz : H.size = xB x + (kd h).length := h4.1
  have hT := E.2.2.2.2.2.2.2.2.2.2.2.2.1.2
  have hcA : cA = xA x q := by
    rcases hq with ⟨rfl, h⟩ | ⟨rfl, h⟩ | ⟨rfl, h⟩ <;> rw [h] at hNm
    · exact Option.some.inj (hNm.symm.trans (hT 0 _ rfl).2)
    · exact Option.some.inj (hNm.symm.trans (hT 1 _ rfl).2)
    · exact Option.some.inj (hNm.symm.trans (hT 2 _ rfl).2)
  subst hcA
  have hq50 : 50 ≤ q := by rcases hq with ⟨rfl, -⟩ | ⟨rfl, -⟩ | ⟨rfl, -⟩ <;> decide
  have hgo := kk p l e R s m args below meth c H1 locs (cells + 1) (slots + n) mc ms lsA E (by omega) (by omega) ⟨Nat.le_trans h3.1 (by omega), fun q g1 g2 => (o1 q (Nat.lt_of_lt_of_le g1 h3.1)).trans (h3.2.1 q g1 g2), h3.2.2⟩ (h4.push hl z1 (jat_arr' hq50 ?_) o1) h5
  · have hm : mv x (.ref (kd h).length) = .ref H.size := by
      show Value.ref (mr x _) = _
      rw [mr_lt (by omega), hz]
    show W p l e R s m args below meth c H1 locs _ _ _ (F0 m (pc + 2) lsA (.ref H.size :: st.map (mv x)))
    rw [← hm]
    exact hgo
  · rw [← hz, e1]
    congr 2
    funext j
    rw [jval_new]
    rcases hq with ⟨rfl, h⟩ | ⟨rfl, h⟩ | ⟨rfl, h⟩ <;> rw [h] <;> rfl
theorem J_anewa {q n idx : Nat} {C : String} {v : Int32} (hd : decode cc pc = .ok (.anewarray idx, 3)) (hp : pc + 3 = pq) (hq : (q = 53 ∧ C = RX0) ∨ (q = 54 ∧ C = RX4)) (hcl : Cond.classLink y.cls idx C ∈ TBg) (hn : ¬ v < 0) (hN : ix v = n) (hb : n ≤ 1000) (hl : (kd h).length + 1 < 1000000000) (hck : 1 ≤ ck) (hcs : n ≤ cs)
    (kk : J x y cc nL rt d (ck - 1) (cs - n) Q pq ls (.ref (kd h).length :: st) (al h (q, n))) : J x y cc nL rt d ck cs Q pc ls (.int v :: st) h := by
  subst hp
  subst hN
  intro p l e R s m args below meth c H locs cells slots mc ms lsA E h1 h2 h3 h4 h5
  have hts := E.2.2.2.2.2.2.2.1
  have hR1 : mc ≤ R.cells := E.2.2.2.2.2.2.2.2.2.2.1
  have hR2 : ms ≤ R.slots := E.2.2.2.2.2.2.2.2.2.2.2.1
  have hover : va_AO C s := by
    rcases hq with ⟨-, rfl⟩ | ⟨-, rfl⟩
    · exact E.2.2.2.2.2.2.2.2.2.2.2.2.2.2.1
    · exact E.2.2.2.2.2.2.2.2.2.2.2.2.2.2.2.1
  refine W.anew E.1 E.2.1 E.2.2.2.2.2.2.1 (hts _ hcl) (va_AO.use hover) rfl hd rfl hn (by show ix v * 4 ≤ _; omega) (by omega) (by show slots + ix v ≤ _; omega) fun cA kA comp f1 f2 f3 f4 => ?_
  generalize hH1 : H.push ({ cls := cA, slots := Array.replicate v.toNatClampNeg .null, vm := .none } : Cell) = H1
  have z1 : H1.size = H.size + 1 := by rw [← hH1, Array.size_push]
  have e1 : H1[H.size]? = some (arrV cA v.toNatClampNeg (fun _ => .null)) := by rw [← hH1, Array.getElem?_push_size, ← arrV_new]
  have o1 : ∀ q : Nat, q < H.size → H1[q]? = H[q]? := fun q hq => by rw [← hH1, Array.getElem?_push, if_neg (Nat.ne_of_lt hq)]
  have hz : H.size = xB x + (kd h).length := h4.1
  have hT := E.2.2.2.2.2.2.2.2.2.2.2.2.1.2
  have hcA : cA = xA x q := by
    rcases hq with ⟨rfl, rfl⟩ | ⟨rfl, rfl⟩
    · obtain ⟨_, _, -, -, -, k4⟩ := (hT 3 _ rfl).2
      exact Option.some.inj (f1.symm.trans k4)
    · obtain ⟨_, _, -, -, -, k4⟩ := (hT 4 _ rfl).2
      exact Option.some.inj (f1.symm.trans k4)
  subst hcA
  have hq50 : 50 ≤ q := by rcases hq with ⟨rfl, -⟩ | ⟨rfl, -⟩ <;> decide
  have hgo := kk p l e R s m args below meth c H1 locs (cells + 1) (slots + ix v) mc ms lsA E (by omega) (by omega) ⟨Nat.le_trans h3.1 (by omega), fun q g1 g2 => (o1 q (Nat.lt_of_lt_of_le g1 h3.1)).trans (h3.2.1 q g1 g2), h3.2.2⟩ (h4.push hl z1 (jat_arr' hq50 ?_) o1) h5
  · have hm : mv x (.ref (kd h).length) = .ref H.size := by
      show Value.ref (mr x _) = _
      rw [mr_lt (by omega), hz]
    show W p l e R s m args below meth c H1 locs _ _ _ (F0 m (pc + 3) lsA (.ref H.size :: st.map (mv x)))
    rw [← hm]
    exact hgo
  · rw [← hz, e1]
    congr 2
    funext j
    rw [jval_new]
    rcases hq with ⟨rfl, -⟩ | ⟨rfl, -⟩ <;> rfl
end JCA
-- the entry of a method
def jargs : List Value → List (Option Value)
  | [] => []
  | v :: vs => if v.category = 2 then some v :: none :: jargs vs else some v :: jargs vs
theorem jargs_in (x : JX) (m : Nat) : ∀ (as : List Value) (i0 i : Nat) (v : Value), (jargs as ++ List.replicate m none)[i]? = some (some v) → (i0 + i, mv x v) ∈ lv_args i0 (as.map (mv x))
  | [], i0, i, v, h => by
    simp only [jargs, List.nil_append] at h
    have := List.mem_of_getElem? h
    rw [List.mem_replicate] at this
    cases this.2
  | a :: as, i0, i, v, h => by
    simp only [List.map_cons, lv_args, mv_cat]
    unfold jargs at h
    by_cases hc : a.category = 2
    · rw [if_pos hc] at h ⊢
      match i, h with
      | 0, h => cases h; exact List.mem_cons_self
      | 1, h => simp at h
      | i + 2, h =>
        have := jargs_in x m as (i0 + 2) i v (by simpa using h)
        rw [show i0 + (i + 2) = i0 + 2 + i by omega]
        exact List.mem_cons_of_mem _ this
    · rw [if_neg hc] at h ⊢
      match i, h with
      | 0, h => cases h; exact List.mem_cons_self
      | i + 1, h =>
        have := jargs_in x m as (i0 + 1) i v (by simpa using h)
        rw [show i0 + (i + 1) = i0 + 1 + i by omega]
        exact List.mem_cons_of_mem _ this
theorem lg_sl_mv (x : JX) : ∀ as : List Value, (lg_sl (as.map (mv x))).length = (jargs as).length
  | [] => rfl
  | a :: as => by
    have := lg_sl_mv x as
    simp only [lg_sl, List.map_cons, List.flatMap_cons, List.length_append, mv_cat] at this ⊢
    unfold jargs
    split <;> simp [this] <;> omega
theorem JM_of {x : JX} {y : MethodName} {cc : ByteArray} {nL : Nat} {rt : Option FieldType} {d k n : Nat} {as : List Value} {h : JH} {Q : Option Value → JH → Prop} (ls : List (Option Value)) (hy : plainName y.cls = true) (hl : (jargs as).length ≤ nL) (hls : jargs as ++ List.replicate (nL - (jargs as).length) none = ls) (kk : J x y cc nL rt d k n Q 0 ls [] h) : JM x y cc nL rt d k n as h Q := by
  intro l
  refine Met.ofW (cc := cc) (maxL := nL) (ret := rt) hy rfl ?_
  intro p e s m args below meth c s₁ B hml hv
  obtain ⟨rfl, hT, hC⟩ := hv
  have hts := atoms_spec (ws := Cond.code y cc nL rt :: TBg) B.pre
  have hle : (lg_sl (as.map (mv x))).length ≤ nL := by rw [lg_sl_mv]; exact hl
  have hle2 := lv_entry (as.map (mv x)) (n := nL) hle
  rw [lg_entry_eq]
  refine kk p l e (jroom d k n) s m _ below meth c s.heap [] 0 0 k n _ ⟨B.exec, B.bytes, hml, B.returns, B.notSynchronized, (name_of_methodNamed B.named B.method).1, findClass_of_methodNamed B.named, fun w hw => hts w (List.mem_cons_of_mem _ hw), Nat.le_refl _, Nat.le_refl _, Nat.le_refl _, Nat.le_refl _, hT⟩ (by omega) (by omega) va_S.rf hC ⟨hle2.1, hle2.2.1, fun i v hi => ?_⟩
  rw [← hls] at hi
  have := jargs_in x _ as 0 i v hi
  rw [Nat.zero_add] at this
  exact hle2.2.2 _ this
end
section
/-- a method that may be called: its words -/
def JTg (y2 : MethodName) (cc2 : ByteArray) (nL2 : Nat) (rt2 : Option FieldType) (n : Nat) : Prop := Cond.code y2 cc2 nL2 rt2 ∈ TBg ∧ Cond.initialized y2.cls ∈ TBg ∧ (y2.cls ≠ "java/lang/invoke/MethodHandle" ∧ y2.cls ≠ "java/lang/invoke/VarHandle" ∧ (parseMethodDescriptor y2.desc).map (fun d => d.parameters.length) = some n) ∧ nL2 ≤ 40
/-- its link in a pool -/
def JLk (own : String) (idx : Nat) (y2 : MethodName) : Prop := Cond.methodLink own idx y2 ∈ TBg ∨ ∃ host : String, Cond.methodLinkNest own idx y2 host ∈ lw_tbl
theorem JTg.good {y2 : MethodName} {cc2 : ByteArray} {nL2 : Nat} {rt2 : Option FieldType} {n : Nat} (h : JTg y2 cc2 nL2 rt2 n) : GoodIn TBg (Cond.code y2 cc2 nL2 rt2 :: TBg) := tb_good (fun w hw => (List.mem_cons.mp hw).elim (fun e => e ▸ h.1) id)
theorem JT.call {x : JX} {s : State} {H : Heap} {locs : List Loc} (hT : JT x s) (h3 : va_S (xF x) s.heap H locs) {U : State} (hU : U.heap = H) (hW : s.WarmedH U.vm) : JT x U := hT.next hW (by rw [hU]; exact Nat.le_trans hT.2.2.2.2.1 h3.1) (fun q h1 h2 => by rw [hU]; exact h3.2.1 q h1 h2)
theorem JPc.blind {x : JX} {as : List Value} {h : JH} : FrameBlind (JPc x as h) := fun a U g mk q => ⟨q.1, q.2.1.next (U := U.calling g mk a) (State.WarmedH.refl U) q.2.1.2.2.2.2.1 (fun _ _ _ => rfl), q.2.2⟩
section JCB
variable {x : JX} {y : MethodName} {cc : ByteArray} {nL : Nat} {rt : Option FieldType} {d ck cs : Nat} {Q : Option Value → JH → Prop} {pc pq : Nat} {ls : List (Option Value)} {st : List Value} {h : JH}
variable {y2 : MethodName} {cc2 : ByteArray} {nL2 : Nat} {rt2 : Option FieldType} {d2 k2 n2 : Nat} {Q2 : Option Value → JH → Prop}
theorem J_after {p : Program} {l : Launch} {e : Env} {R : Room} {s : State} {m : MethodId} {args : Array Value} {below : List Frame} {meth : Method} {c : Code} {H : Heap} {locs : List Loc} {cells slots mc ms : Nat} {lsA : Array Slot} {a : Array Value} {st0 : List Value}
    (E : JE x y cc nL rt d p R s m args meth c mc ms) (h1 : cells + ck ≤ mc) (h2 : slots + cs ≤ ms) (h3 : va_S (xF x) s.heap H locs) (h5 : JL x lsA nL ls) (hk : k2 ≤ ck) (hn : n2 ≤ cs)
    (hr : va_Run p l e R s m args below meth c H locs cells slots k2 n2 (F0 m pc lsA st0) (st.map (mv x)) (JQc x Q2 a) (xF x))
    (kk : ∀ (v : Option Value) (h' : JH), Q2 v h' → J x y cc nL rt d (ck - k2) (cs - n2) Q (pc + 3) ls (v.toList ++ st) h') : W p l e R s m args below meth c H locs cells slots (MQ below (JQc x Q) args s mc ms (xF x)) (F0 m pc lsA st0) := by
  intro T hT X
  obtain ⟨v, st₀, t, T', L, h0, X', hL, e1, e2, ⟨v', h', hv, hQ, hC, hF⟩, hst⟩ := hr T hT X
  cases hv
  have hz : H.size ≤ T'.heap.size := by rw [e1, ← h0]; exact hF.1
  have hgo := kk v' h' hQ p l e R s m args below meth c T'.heap (locs ++ L) (cells + k2) (slots + n2) mc ms lsA E (by omega) (by omega)
    ⟨Nat.le_trans h3.1 hz, fun q g1 g2 => by rw [e1, hF.2 q (by rw [h0]; exact Nat.lt_of_lt_of_le g1 h3.1) g2, h0]; exact h3.2.1 q g1 g2, fun q hq => (List.mem_append.mp hq).elim (h3.2.2 q) (hL q)⟩ (by rw [e1]; exact hC) h5
  obtain ⟨t2, a1, b1⟩ := hgo T' rfl X'
  refine ⟨t2, hst t2 ?_, b1⟩
  cases v' <;> exact a1
/-- a call by the object's own method -/
theorem J_virt {idx ci o N : Nat} {as2 : List Value} {stk : List Value} (hd : decode cc pc = .ok (.invokevirtual idx, 3)) (hp : pc + 3 = pq) (hM : JM x y2 cc2 nL2 rt2 d2 k2 n2 (.ref o :: as2) h Q2) (hs : stk = as2.reverse ++ .ref o :: st) (hg : JTg y2 cc2 nL2 rt2 as2.length) (hl : JLk y.cls idx y2) (hv : Cond.instanceMethod y2 ∈ TBg ∧ Cond.selects y2.cls y2 y2 ∈ TBg) (ho : (kd h)[o]? = some (ci, N)) (hci : ci < 50 ∧ (vwCl[ci]?).map (fun r => r.1) = some y2.cls) (hdp : d2 + 1 ≤ d) (hk : k2 ≤ ck) (hn : n2 ≤ cs) (hst : (st.map fun v => v.category).sum ≤ 8)
    (kk : ∀ (v : Option Value) (h' : JH), Q2 v h' → J x y cc nL rt d (ck - k2) (cs - n2) Q pq ls (v.toList ++ st) h') : J x y cc nL rt d ck cs Q pc ls stk h := by
  subst hp
  subst hs
  intro p l e R s m args below meth c H locs cells slots mc ms lsA E h1 h2 h3 h4 h5
  have hts := E.2.2.2.2.2.2.2.1
  have hR : d ≤ R.frames ∧ 60 * d ≤ R.locals ∧ mc ≤ R.cells ∧ ms ≤ R.slots := ⟨E.2.2.2.2.2.2.2.2.1, E.2.2.2.2.2.2.2.2.2.1, E.2.2.2.2.2.2.2.2.2.2.1, E.2.2.2.2.2.2.2.2.2.2.2.1⟩
  have hT : JT x s := E.2.2.2.2.2.2.2.2.2.2.2.2
  obtain ⟨⟨r, hr, hN⟩, cell, q1, q2, q3, -⟩ := jat_obj hci.1 (h4.2.2 o _ ho)
  have hrn : r.1 = y2.cls := by
    have := hci.2
    rw [show vwCl[ci]? = some r from hr] at this
    exact Option.some.inj this
  have hmo := mv_ref h4 ho
  have hPre : PreV s H y2.cls (xB x + o) (JPc x (.ref o :: as2) h) (as2.map (mv x)) := by
    refine ⟨JPc.blind, ⟨cell, q1, by rw [q3]; rfl, by rw [q2, ← hrn]; exact (hT.1.1 ci r hr).2.1⟩, fun U hU hW => ⟨?_, hT.call h3 hU hW, by rw [hU]; exact h4⟩⟩
    rw [List.map_cons, hmo]
  have hstk : (as2.reverse ++ .ref o :: st).map (mv x) = (as2.map (mv x)).reverse ++ .ref (xB x + o) :: st.map (mv x) := by
    rw [List.map_append, List.map_reverse, List.map_cons, hmo]
  have hcat : 2 * (F0 m pc lsA ((as2.reverse ++ .ref o :: st).map (mv x))).monitorRoom + ((st.map (mv x)).map fun v => v.category).sum ≤ 8 := lv_room (by rw [mv_cats]; exact hst)
  have hroom : (jroom d2 k2 n2).frames + 1 ≤ R.frames ∧ 8 + (nL2 + 11) + (jroom d2 k2 n2).locals ≤ R.locals := by
    have := hg.2.2.2
    constructor
    · show d2 + 1 ≤ R.frames; omega
    · show 8 + (nL2 + 11) + 60 * d2 ≤ R.locals; omega
  have hin := hts _ hv.1
  have hse := hts _ hv.2
  rcases hl with hl | ⟨host, hl⟩
  · exact J_after (k2 := k2) (n2 := n2) E h1 h2 h3 h5 hk hn (va_runV (As := as2.map (mv x)) (rest := st.map (mv x)) (b := xB x + o) (n := as2.length) ⟨E.1, E.2.1, E.2.2.1, E.2.2.2.2.2.2.1, hts⟩ (hM l) ⟨callB_of as2.length hts hg.good rfl rfl rfl (hts _ hg.2.1) (hts _ hl) hg.2.2.1 hroom, hin, hse⟩ hPre rfl (by rw [List.length_map]) h5.1 hstk hcat hd (by omega)) kk
  · exact J_after (k2 := k2) (n2 := n2) E h1 h2 h3 h5 hk hn (va_runVN (As := as2.map (mv x)) (rest := st.map (mv x)) (b := xB x + o) (n := as2.length) ⟨E.1, E.2.1, E.2.2.1, E.2.2.2.2.2.2.1, hts⟩ (hM l) ⟨va_cnB as2.length hts hg.good rfl rfl rfl (hT.2.1 _ hl rfl) (hts _ hg.2.1) hg.2.2.1 hroom, hin, hse⟩ hPre rfl (by rw [List.length_map]) h5.1 hstk hcat hd (by omega)) kk
theorem J_stat {idx : Nat} {as2 : List Value} {stk : List Value} (hd : decode cc pc = .ok (.invokestatic idx, 3)) (hp : pc + 3 = pq) (hM : JM x y2 cc2 nL2 rt2 d2 k2 n2 as2 h Q2) (hs : stk = as2.reverse ++ st) (hg : JTg y2 cc2 nL2 rt2 as2.length) (hl : JLk y.cls idx y2) (hv : Cond.static y2 ∈ TBg) (hdp : d2 + 1 ≤ d) (hk : k2 ≤ ck) (hn : n2 ≤ cs) (hst : (st.map fun v => v.category).sum ≤ 8)
    (kk : ∀ (v : Option Value) (h' : JH), Q2 v h' → J x y cc nL rt d (ck - k2) (cs - n2) Q pq ls (v.toList ++ st) h') : J x y cc nL rt d ck cs Q pc ls stk h := by
  subst hp
  subst hs
  intro p l e R s m args below meth c H locs cells slots mc ms lsA E h1 h2 h3 h4 h5
  have hts := E.2.2.2.2.2.2.2.1
  have hR : d ≤ R.frames ∧ 60 * d ≤ R.locals ∧ mc ≤ R.cells ∧ ms ≤ R.slots := ⟨E.2.2.2.2.2.2.2.2.1, E.2.2.2.2.2.2.2.2.2.1, E.2.2.2.2.2.2.2.2.2.2.1, E.2.2.2.2.2.2.2.2.2.2.2.1⟩
  have hT : JT x s := E.2.2.2.2.2.2.2.2.2.2.2.2
  have hPre : PreS s H (JPc x as2 h) (as2.map (mv x)) := ⟨JPc.blind, fun U hU hW => ⟨rfl, hT.call h3 hU hW, by rw [hU]; exact h4⟩⟩
  have hstk : (as2.reverse ++ st).map (mv x) = (as2.map (mv x)).reverse ++ st.map (mv x) := by
    rw [List.map_append, List.map_reverse]
  have hcat : 2 * (F0 m pc lsA ((as2.reverse ++ st).map (mv x))).monitorRoom + ((st.map (mv x)).map fun v => v.category).sum ≤ 8 := lv_room (by rw [mv_cats]; exact hst)
  have hroom : (jroom d2 k2 n2).frames + 1 ≤ R.frames ∧ 8 + (nL2 + 11) + (jroom d2 k2 n2).locals ≤ R.locals := by
    have := hg.2.2.2
    constructor
    · show d2 + 1 ≤ R.frames; omega
    · show 8 + (nL2 + 11) + 60 * d2 ≤ R.locals; omega
  have hse := hts _ hv
  rcases hl with hl | ⟨host, hl⟩
  · exact J_after (k2 := k2) (n2 := n2) E h1 h2 h3 h5 hk hn (va_runS (As := as2.map (mv x)) (rest := st.map (mv x)) (n := as2.length) ⟨E.1, E.2.1, E.2.2.1, E.2.2.2.2.2.2.1, hts⟩ (hM l) ⟨callB_of as2.length hts hg.good rfl rfl rfl (hts _ hg.2.1) (hts _ hl) hg.2.2.1 hroom, hse⟩ hPre rfl (by rw [List.length_map]) h5.1 hstk hcat hd (by omega)) kk
  · exact J_after (k2 := k2) (n2 := n2) E h1 h2 h3 h5 hk hn (va_runSN (As := as2.map (mv x)) (rest := st.map (mv x)) (n := as2.length) ⟨E.1, E.2.1, E.2.2.1, E.2.2.2.2.2.2.1, hts⟩ (hM l) ⟨va_cnB as2.length hts hg.good rfl rfl rfl (hT.2.1 _ hl rfl) (hts _ hg.2.1) hg.2.2.1 hroom, hse, trivial⟩ hPre rfl (by rw [List.length_map]) h5.1 hstk hcat hd (by omega)) kk
theorem J_init {idx ci o N : Nat} {as2 : List Value} {stk : List Value} (hd : decode cc pc = .ok (.invokespecial idx, 3)) (hp : pc + 3 = pq) (hM : JM x y2 cc2 nL2 none d2 k2 n2 (.ref o :: as2) h Q2) (hs : stk = as2.reverse ++ .ref o :: st) (hg : JTg y2 cc2 nL2 none as2.length) (hl : JLk y.cls idx y2) (hv : Cond.instanceMethod y2 ∈ TBg ∧ y2.name = "<init>") (ho : (kd h)[o]? = some (ci, N)) (hdp : d2 + 1 ≤ d) (hk : k2 ≤ ck) (hn : n2 ≤ cs) (hst : (st.map fun v => v.category).sum ≤ 8)
    (kk : ∀ (v : Option Value) (h' : JH), Q2 v h' → J x y cc nL rt d (ck - k2) (cs - n2) Q pq ls (v.toList ++ st) h') : J x y cc nL rt d ck cs Q pc ls stk h := by
  subst hp
  subst hs
  intro p l e R s m args below meth c H locs cells slots mc ms lsA E h1 h2 h3 h4 h5
  have hts := E.2.2.2.2.2.2.2.1
  have hR : d ≤ R.frames ∧ 60 * d ≤ R.locals ∧ mc ≤ R.cells ∧ ms ≤ R.slots := ⟨E.2.2.2.2.2.2.2.2.1, E.2.2.2.2.2.2.2.2.2.1, E.2.2.2.2.2.2.2.2.2.2.1, E.2.2.2.2.2.2.2.2.2.2.2.1⟩
  have hT : JT x s := E.2.2.2.2.2.2.2.2.2.2.2.2
  have hmo := mv_ref h4 ho
  have hPre : PreS s H (JPc x (.ref o :: as2) h) (.ref (xB x + o) :: as2.map (mv x)) := by
    refine ⟨JPc.blind, fun U hU hW => ⟨?_, hT.call h3 hU hW, by rw [hU]; exact h4⟩⟩
    rw [List.map_cons, hmo]
  have hstk : (as2.reverse ++ .ref o :: st).map (mv x) = (as2.map (mv x)).reverse ++ .ref (xB x + o) :: st.map (mv x) := by
    rw [List.map_append, List.map_reverse, List.map_cons, hmo]
  have hcat : 2 * (F0 m pc lsA ((as2.reverse ++ .ref o :: st).map (mv x))).monitorRoom + ((st.map (mv x)).map fun v => v.category).sum ≤ 8 := lv_room (by rw [mv_cats]; exact hst)
  have hroom : (jroom d2 k2 n2).frames + 1 ≤ R.frames ∧ 8 + (nL2 + 11) + (jroom d2 k2 n2).locals ≤ R.locals := by
    have := hg.2.2.2
    constructor
    · show d2 + 1 ≤ R.frames; omega
    · show 8 + (nL2 + 11) + 60 * d2 ≤ R.locals; omega
  have hin := hts _ hv.1
  rcases hl with hl | ⟨host, hl⟩
  · exact J_after (k2 := k2) (n2 := n2) E h1 h2 h3 h5 hk hn (va_runI (As := as2.map (mv x)) (rest := st.map (mv x)) (b := xB x + o) (n := as2.length) ⟨E.1, E.2.1, E.2.2.1, E.2.2.2.2.2.2.1, hts⟩ (hM l) ⟨callB_of as2.length hts hg.good rfl rfl rfl (hts _ hg.2.1) (hts _ hl) hg.2.2.1 hroom, hv.2, hin⟩ hPre rfl (by rw [List.length_map]) h5.1 hstk hcat hd (by omega)) kk
  · exact J_after (k2 := k2) (n2 := n2) E h1 h2 h3 h5 hk hn (va_runIN (As := as2.map (mv x)) (rest := st.map (mv x)) (b := xB x + o) (n := as2.length) ⟨E.1, E.2.1, E.2.2.1, E.2.2.2.2.2.2.1, hts⟩ (hM l) ⟨va_cnB as2.length hts hg.good rfl rfl rfl (hT.2.1 _ hl rfl) (hts _ hg.2.1) hg.2.2.1 hroom, hv.2, hin⟩ hPre rfl (by rw [List.length_map]) h5.1 hstk hcat hd (by omega)) kk
/-- Object's own constructor -/
theorem J_obj {idx o ci N : Nat} (hd : decode cc pc = .ok (.invokespecial idx, 3)) (hp : pc + 3 = pq) (hl : Cond.methodLink y.cls idx Lib.objectInit ∈ TBg) (hi : Cond.instanceMethod Lib.objectInit ∈ TBg) (hc : Cond.code Lib.objectInit ⟨#[0xb1]⟩ 1 none ∈ TBg) (ho : (kd h)[o]? = some (ci, N)) (hdp : 1 ≤ d) (hst : (st.map fun v => v.category).sum ≤ 8) (kk : J x y cc nL rt d ck cs Q pq ls st h) : J x y cc nL rt d ck cs Q pc ls (.ref o :: st) h := by
  subst hp
  intro p l e R s m args below meth c H locs cells slots mc ms lsA E h1 h2 h3 h4 h5
  have hts := E.2.2.2.2.2.2.2.1
  have hR : d ≤ R.frames ∧ 60 * d ≤ R.locals := ⟨E.2.2.2.2.2.2.2.2.1, E.2.2.2.2.2.2.2.2.2.1⟩
  show W p l e R s m args below meth c H locs cells slots _ (F0 m pc lsA (mv x (.ref o) :: st.map (mv x)))
  rw [mv_ref h4 ho]
  refine W.objInit E.1 E.2.1 E.2.2.2.2.2.2.1 (hts _ hl) (hts _ hi) (hts _ hc) rfl (h5.1.trans E.2.2.1.symm) rfl hd (by omega) ?_ (kk p l e R s m args below meth c H locs cells slots mc ms lsA E h1 h2 h3 h4 h5)
  have := lv_room (m := m) (pc := pc) (ls := lsA) (rest := mv x (.ref o) :: st.map (mv x)) (st := st.map (mv x)) (by rw [mv_cats]; exact hst)
  have e0 : (F0 m pc lsA (.ref (xB x + o) :: st.map (mv x))).monitorRoom = 0 := rfl
  rw [e0, mv_cats]
  omega
theorem J_mmax {idx : Nat} {a b : Int32} (hd : decode cc pc = .ok (.invokestatic idx, 3)) (hp : pc + 3 = pq) (hl : Cond.methodLink y.cls idx Lib.Math.max.name ∈ TBg) (hs : Cond.static Lib.Math.max.name ∈ TBg) (hi : Cond.initialized "java/lang/Math" ∈ TBg) (hc : Cond.code Lib.Math.max.name Lib.Math.max.code 2 (some .int) ∈ TBg) (hdp : 1 ≤ d) (hst : (st.map fun v => v.category).sum ≤ 8) (kk : J x y cc nL rt d ck cs Q pq ls (.int (if a < b then b else a) :: st) h) : J x y cc nL rt d ck cs Q pc ls (.int b :: .int a :: st) h := by
  subst hp
  intro p l e R s m args below meth c H locs cells slots mc ms lsA E h1 h2 h3 h4 h5
  have hts := E.2.2.2.2.2.2.2.1
  have hR : d ≤ R.frames ∧ 60 * d ≤ R.locals ∧ mc ≤ R.cells ∧ ms ≤ R.slots := ⟨E.2.2.2.2.2.2.2.2.1, E.2.2.2.2.2.2.2.2.2.1, E.2.2.2.2.2.2.2.2.2.2.1, E.2.2.2.2.2.2.2.2.2.2.2.1⟩
  exact va_mmax E.1 E.2.1 (E.2.2.1.trans h5.1.symm) E.2.2.2.2.2.2.1 (hts _ hl) (hts _ hs) (hts _ hi) (hts _ hc) (by omega) (by rw [mv_cats]; omega) (by omega) (by omega) hd (kk p l e R s m args below meth c H locs cells slots mc ms lsA E h1 h2 h3 h4 h5)
theorem J_mmin {idx : Nat} {a b : Int32} (hd : decode cc pc = .ok (.invokestatic idx, 3)) (hp : pc + 3 = pq) (hl : Cond.methodLink y.cls idx Lib.Math.min.name ∈ TBg) (hs : Cond.static Lib.Math.min.name ∈ TBg) (hi : Cond.initialized "java/lang/Math" ∈ TBg) (hc : Cond.code Lib.Math.min.name Lib.Math.min.code 2 (some .int) ∈ TBg) (hdp : 1 ≤ d) (hst : (st.map fun v => v.category).sum ≤ 8) (kk : J x y cc nL rt d ck cs Q pq ls (.int (if b < a then b else a) :: st) h) : J x y cc nL rt d ck cs Q pc ls (.int b :: .int a :: st) h := by
  subst hp
  intro p l e R s m args below meth c H locs cells slots mc ms lsA E h1 h2 h3 h4 h5
  have hts := E.2.2.2.2.2.2.2.1
  have hR : d ≤ R.frames ∧ 60 * d ≤ R.locals ∧ mc ≤ R.cells ∧ ms ≤ R.slots := ⟨E.2.2.2.2.2.2.2.2.1, E.2.2.2.2.2.2.2.2.2.1, E.2.2.2.2.2.2.2.2.2.2.1, E.2.2.2.2.2.2.2.2.2.2.2.1⟩
  exact va_mmin E.1 E.2.1 (E.2.2.1.trans h5.1.symm) E.2.2.2.2.2.2.1 (hts _ hl) (hts _ hs) (hts _ hi) (hts _ hc) (by omega) (by rw [mv_cats]; omega) (by omega) (by omega) hd (kk p l e R s m args below meth c H locs cells slots mc ms lsA E h1 h2 h3 h4 h5)
end JCB
end
section
theorem f_X8_10 : JFld RX8 10 8 0 "LChipBurner$Tape;" true := ⟨by decide, (RX8, TX8, 11), rfl, by decide, rfl, rfl, Or.inl (tb_mem 251 (by decide +kernel) rfl)⟩
theorem f_X8_16 : JFld RX8 16 8 1 "[I" true := ⟨by decide, (RX8, TX8, 11), rfl, by decide, rfl, rfl, Or.inl (tb_mem 252 (by decide +kernel) rfl)⟩
theorem f_X8_23 : JFld RX8 23 8 2 "LChipBurner$Finding;" true := ⟨by decide, (RX8, TX8, 11), rfl, by decide, rfl, rfl, Or.inl (tb_mem 253 (by decide +kernel) rfl)⟩
theorem f_X8_32 : JFld RX8 32 8 3 "LChipBurner$FormReader;" true := ⟨by decide, (RX8, TX8, 11), rfl, by decide, rfl, rfl, Or.inl (tb_mem 254 (by decide +kernel) rfl)⟩
theorem f_X8_41 : JFld RX8 41 8 4 "LChipBurner$FormWriter;" true := ⟨by decide, (RX8, TX8, 11), rfl, by decide, rfl, rfl, Or.inl (tb_mem 255 (by decide +kernel) rfl)⟩
theorem f_X8_48 : JFld RX8 48 8 5 "LChipBurner$RecipeReader;" true := ⟨by decide, (RX8, TX8, 11), rfl, by decide, rfl, rfl, Or.inl (tb_mem 256 (by decide +kernel) rfl)⟩
theorem f_X8_54 : JFld RX8 54 8 6 "[LChipBurner$Chip;" true := ⟨by decide, (RX8, TX8, 11), rfl, by decide, rfl, rfl, Or.inl (tb_mem 257 (by decide +kernel) rfl)⟩
theorem f_X8_60 : JFld RX8 60 8 8 "[LChipBurner$Recipe;" true := ⟨by decide, (RX8, TX8, 11), rfl, by decide, rfl, rfl, Or.inl (tb_mem 259 (by decide +kernel) rfl)⟩
theorem f_X8_65 : JFld RX8 65 8 9 "LChipBurner$Recipe;" false := ⟨by decide, (RX8, TX8, 11), rfl, by decide, rfl, rfl, Or.inl (tb_mem 260 (by decide +kernel) rfl)⟩
theorem f_X8_99 : JFld RX8 99 8 10 "I" false := ⟨by decide, (RX8, TX8, 11), rfl, by decide, rfl, rfl, Or.inl (tb_mem 261 (by decide +kernel) rfl)⟩
theorem f_X8_109 : JFld RX8 109 1 0 "I" false := ⟨by decide, (RX1, TX1, 2), rfl, by decide, rfl, rfl, Or.inr ⟨"ChipBurner", List.mem_of_getElem? (i := 122) (by decide +kernel)⟩⟩
theorem f_X8_112 : JFld RX8 112 1 1 "I" false := ⟨by decide, (RX1, TX1, 2), rfl, by decide, rfl, rfl, Or.inr ⟨"ChipBurner", List.mem_of_getElem? (i := 124) (by decide +kernel)⟩⟩
theorem f_X8_130 : JFld RX8 130 8 7 "I" false := ⟨by decide, (RX8, TX8, 11), rfl, by decide, rfl, rfl, Or.inl (tb_mem 258 (by decide +kernel) rfl)⟩
theorem f_X8_159 : JFld RX8 159 0 2 "Z" true := ⟨by decide, (RX0, TX0, 17), rfl, by decide, rfl, rfl, Or.inr ⟨"ChipBurner", List.mem_of_getElem? (i := 467) (by decide +kernel)⟩⟩
theorem f_X8_166 : JFld RX8 166 0 15 "I" false := ⟨by decide, (RX0, TX0, 17), rfl, by decide, rfl, rfl, Or.inr ⟨"ChipBurner", List.mem_of_getElem? (i := 483) (by decide +kernel)⟩⟩
theorem f_X8_178 : JFld RX8 178 4 4 "I" false := ⟨by decide, (RX4, TX4, 8), rfl, by decide, rfl, rfl, Or.inr ⟨"ChipBurner", List.mem_of_getElem? (i := 224) (by decide +kernel)⟩⟩
theorem f_X8_185 : JFld RX8 185 4 5 "I" false := ⟨by decide, (RX4, TX4, 8), rfl, by decide, rfl, rfl, Or.inr ⟨"ChipBurner", List.mem_of_getElem? (i := 226) (by decide +kernel)⟩⟩
theorem f_X8_188 : JFld RX8 188 4 6 "I" false := ⟨by decide, (RX4, TX4, 8), rfl, by decide, rfl, rfl, Or.inr ⟨"ChipBurner", List.mem_of_getElem? (i := 228) (by decide +kernel)⟩⟩
theorem f_X8_191 : JFld RX8 191 4 7 "I" false := ⟨by decide, (RX4, TX4, 8), rfl, by decide, rfl, rfl, Or.inr ⟨"ChipBurner", List.mem_of_getElem? (i := 230) (by decide +kernel)⟩⟩
theorem f_X8_211 : JFld RX8 211 7 2 "I" false := ⟨by decide, (RX7, TX7, 7), rfl, by decide, rfl, rfl, Or.inr ⟨"ChipBurner", List.mem_of_getElem? (i := 839) (by decide +kernel)⟩⟩
theorem f_X8_234 : JFld RX8 234 0 1 "I" true := ⟨by decide, (RX0, TX0, 17), rfl, by decide, rfl, rfl, Or.inr ⟨"ChipBurner", List.mem_of_getElem? (i := 465) (by decide +kernel)⟩⟩
theorem f_X0_9 : JFld RX0 9 0 13 "[Z" true := ⟨by decide, (RX0, TX0, 17), rfl, by decide, rfl, rfl, Or.inl (tb_mem 480 (by decide +kernel) rfl)⟩
theorem f_X0_15 : JFld RX0 15 0 14 "[Z" true := ⟨by decide, (RX0, TX0, 17), rfl, by decide, rfl, rfl, Or.inl (tb_mem 481 (by decide +kernel) rfl)⟩
theorem f_X0_22 : JFld RX0 22 0 0 "I" true := ⟨by decide, (RX0, TX0, 17), rfl, by decide, rfl, rfl, Or.inl (tb_mem 463 (by decide +kernel) rfl)⟩
theorem f_X0_26 : JFld RX0 26 0 1 "I" true := ⟨by decide, (RX0, TX0, 17), rfl, by decide, rfl, rfl, Or.inl (tb_mem 464 (by decide +kernel) rfl)⟩
theorem f_X0_29 : JFld RX0 29 0 2 "Z" true := ⟨by decide, (RX0, TX0, 17), rfl, by decide, rfl, rfl, Or.inl (tb_mem 466 (by decide +kernel) rfl)⟩
theorem f_X0_33 : JFld RX0 33 0 8 "[I" true := ⟨by decide, (RX0, TX0, 17), rfl, by decide, rfl, rfl, Or.inl (tb_mem 475 (by decide +kernel) rfl)⟩
theorem f_X0_37 : JFld RX0 37 0 9 "[I" true := ⟨by decide, (RX0, TX0, 17), rfl, by decide, rfl, rfl, Or.inl (tb_mem 476 (by decide +kernel) rfl)⟩
theorem f_X0_40 : JFld RX0 40 0 10 "[I" true := ⟨by decide, (RX0, TX0, 17), rfl, by decide, rfl, rfl, Or.inl (tb_mem 477 (by decide +kernel) rfl)⟩
theorem f_X0_43 : JFld RX0 43 0 11 "[I" true := ⟨by decide, (RX0, TX0, 17), rfl, by decide, rfl, rfl, Or.inl (tb_mem 478 (by decide +kernel) rfl)⟩
theorem f_X0_46 : JFld RX0 46 0 12 "[I" true := ⟨by decide, (RX0, TX0, 17), rfl, by decide, rfl, rfl, Or.inl (tb_mem 479 (by decide +kernel) rfl)⟩
theorem f_X0_55 : JFld RX0 55 0 3 "I" false := ⟨by decide, (RX0, TX0, 17), rfl, by decide, rfl, rfl, Or.inl (tb_mem 468 (by decide +kernel) rfl)⟩
theorem f_X0_58 : JFld RX0 58 0 4 "I" false := ⟨by decide, (RX0, TX0, 17), rfl, by decide, rfl, rfl, Or.inl (tb_mem 469 (by decide +kernel) rfl)⟩
theorem f_X0_61 : JFld RX0 61 0 5 "I" false := ⟨by decide, (RX0, TX0, 17), rfl, by decide, rfl, rfl, Or.inl (tb_mem 471 (by decide +kernel) rfl)⟩
theorem f_X0_64 : JFld RX0 64 0 6 "I" false := ⟨by decide, (RX0, TX0, 17), rfl, by decide, rfl, rfl, Or.inl (tb_mem 473 (by decide +kernel) rfl)⟩
theorem f_X0_67 : JFld RX0 67 0 7 "I" false := ⟨by decide, (RX0, TX0, 17), rfl, by decide, rfl, rfl, Or.inl (tb_mem 474 (by decide +kernel) rfl)⟩
theorem f_X0_81 : JFld RX0 81 0 15 "I" false := ⟨by decide, (RX0, TX0, 17), rfl, by decide, rfl, rfl, Or.inl (tb_mem 482 (by decide +kernel) rfl)⟩
theorem f_X0_90 : JFld RX0 90 0 16 "I" false := ⟨by decide, (RX0, TX0, 17), rfl, by decide, rfl, rfl, Or.inl (tb_mem 484 (by decide +kernel) rfl)⟩
theorem f_X1_9 : JFld RX1 9 1 0 "I" false := ⟨by decide, (RX1, TX1, 2), rfl, by decide, rfl, rfl, Or.inl (tb_mem 121 (by decide +kernel) rfl)⟩
theorem f_X1_15 : JFld RX1 15 1 1 "I" false := ⟨by decide, (RX1, TX1, 2), rfl, by decide, rfl, rfl, Or.inl (tb_mem 123 (by decide +kernel) rfl)⟩
theorem f_X2_9 : JFld RX2 9 2 2 "[I" true := ⟨by decide, (RX2, TX2, 9), rfl, by decide, rfl, rfl, Or.inl (tb_mem 138 (by decide +kernel) rfl)⟩
theorem f_X2_15 : JFld RX2 15 2 0 "LChipBurner$Tape;" true := ⟨by decide, (RX2, TX2, 9), rfl, by decide, rfl, rfl, Or.inl (tb_mem 136 (by decide +kernel) rfl)⟩
theorem f_X2_19 : JFld RX2 19 2 1 "LChipBurner$Finding;" true := ⟨by decide, (RX2, TX2, 9), rfl, by decide, rfl, rfl, Or.inl (tb_mem 137 (by decide +kernel) rfl)⟩
theorem f_X2_40 : JFld RX2 40 2 3 "I" false := ⟨by decide, (RX2, TX2, 9), rfl, by decide, rfl, rfl, Or.inl (tb_mem 139 (by decide +kernel) rfl)⟩
theorem f_X2_72 : JFld RX2 72 2 4 "Z" false := ⟨by decide, (RX2, TX2, 9), rfl, by decide, rfl, rfl, Or.inl (tb_mem 140 (by decide +kernel) rfl)⟩
theorem f_X2_93 : JFld RX2 93 2 5 "I" false := ⟨by decide, (RX2, TX2, 9), rfl, by decide, rfl, rfl, Or.inl (tb_mem 141 (by decide +kernel) rfl)⟩
theorem f_X2_99 : JFld RX2 99 2 8 "I" false := ⟨by decide, (RX2, TX2, 9), rfl, by decide, rfl, rfl, Or.inl (tb_mem 144 (by decide +kernel) rfl)⟩
theorem f_X2_102 : JFld RX2 102 2 6 "I" false := ⟨by decide, (RX2, TX2, 9), rfl, by decide, rfl, rfl, Or.inl (tb_mem 142 (by decide +kernel) rfl)⟩
theorem f_X2_105 : JFld RX2 105 2 7 "I" false := ⟨by decide, (RX2, TX2, 9), rfl, by decide, rfl, rfl, Or.inl (tb_mem 143 (by decide +kernel) rfl)⟩
theorem f_X3_9 : JFld RX3 9 3 0 "LChipBurner$Tape;" true := ⟨by decide, (RX3, TX3, 2), rfl, by decide, rfl, rfl, Or.inl (tb_mem 170 (by decide +kernel) rfl)⟩
theorem f_X3_38 : JFld RX3 38 3 1 "I" false := ⟨by decide, (RX3, TX3, 2), rfl, by decide, rfl, rfl, Or.inl (tb_mem 171 (by decide +kernel) rfl)⟩
theorem f_X4_9 : JFld RX4 9 4 0 "[I" true := ⟨by decide, (RX4, TX4, 8), rfl, by decide, rfl, rfl, Or.inl (tb_mem 218 (by decide +kernel) rfl)⟩
theorem f_X4_15 : JFld RX4 15 4 1 "[I" true := ⟨by decide, (RX4, TX4, 8), rfl, by decide, rfl, rfl, Or.inl (tb_mem 219 (by decide +kernel) rfl)⟩
theorem f_X4_18 : JFld RX4 18 4 2 "[I" true := ⟨by decide, (RX4, TX4, 8), rfl, by decide, rfl, rfl, Or.inl (tb_mem 220 (by decide +kernel) rfl)⟩
theorem f_X4_21 : JFld RX4 21 4 3 "[I" true := ⟨by decide, (RX4, TX4, 8), rfl, by decide, rfl, rfl, Or.inl (tb_mem 221 (by decide +kernel) rfl)⟩
theorem f_X4_24 : JFld RX4 24 4 5 "I" false := ⟨by decide, (RX4, TX4, 8), rfl, by decide, rfl, rfl, Or.inl (tb_mem 225 (by decide +kernel) rfl)⟩
theorem f_X4_28 : JFld RX4 28 4 4 "I" false := ⟨by decide, (RX4, TX4, 8), rfl, by decide, rfl, rfl, Or.inl (tb_mem 222 (by decide +kernel) rfl)⟩
theorem f_X4_55 : JFld RX4 55 4 6 "I" false := ⟨by decide, (RX4, TX4, 8), rfl, by decide, rfl, rfl, Or.inl (tb_mem 227 (by decide +kernel) rfl)⟩
theorem f_X4_58 : JFld RX4 58 4 7 "I" false := ⟨by decide, (RX4, TX4, 8), rfl, by decide, rfl, rfl, Or.inl (tb_mem 229 (by decide +kernel) rfl)⟩
theorem f_X4_61 : JFld RX4 61 0 4 "I" false := ⟨by decide, (RX0, TX0, 17), rfl, by decide, rfl, rfl, Or.inr ⟨"ChipBurner", List.mem_of_getElem? (i := 470) (by decide +kernel)⟩⟩
theorem f_X4_65 : JFld RX4 65 0 5 "I" false := ⟨by decide, (RX0, TX0, 17), rfl, by decide, rfl, rfl, Or.inr ⟨"ChipBurner", List.mem_of_getElem? (i := 472) (by decide +kernel)⟩⟩
theorem f_X5_9 : JFld RX5 9 5 5 "[I" true := ⟨by decide, (RX5, TX5, 8), rfl, by decide, rfl, rfl, Or.inl (tb_mem 188 (by decide +kernel) rfl)⟩
theorem f_X5_15 : JFld RX5 15 5 6 "[Z" true := ⟨by decide, (RX5, TX5, 8), rfl, by decide, rfl, rfl, Or.inl (tb_mem 189 (by decide +kernel) rfl)⟩
theorem f_X5_19 : JFld RX5 19 5 0 "LChipBurner$Tape;" true := ⟨by decide, (RX5, TX5, 8), rfl, by decide, rfl, rfl, Or.inl (tb_mem 183 (by decide +kernel) rfl)⟩
theorem f_X5_23 : JFld RX5 23 5 1 "LChipBurner$Finding;" true := ⟨by decide, (RX5, TX5, 8), rfl, by decide, rfl, rfl, Or.inl (tb_mem 184 (by decide +kernel) rfl)⟩
theorem f_X5_47 : JFld RX5 47 5 7 "I" false := ⟨by decide, (RX5, TX5, 8), rfl, by decide, rfl, rfl, Or.inl (tb_mem 190 (by decide +kernel) rfl)⟩
theorem f_X5_51 : JFld RX5 51 5 4 "I" false := ⟨by decide, (RX5, TX5, 8), rfl, by decide, rfl, rfl, Or.inl (tb_mem 187 (by decide +kernel) rfl)⟩
theorem f_X5_57 : JFld RX5 57 5 2 "I" false := ⟨by decide, (RX5, TX5, 8), rfl, by decide, rfl, rfl, Or.inl (tb_mem 185 (by decide +kernel) rfl)⟩
theorem f_X5_122 : JFld RX5 122 5 3 "I" false := ⟨by decide, (RX5, TX5, 8), rfl, by decide, rfl, rfl, Or.inl (tb_mem 186 (by decide +kernel) rfl)⟩
theorem f_X6_9 : JFld RX6 9 6 0 "[I" true := ⟨by decide, (RX6, TX6, 2), rfl, by decide, rfl, rfl, Or.inl (tb_mem 107 (by decide +kernel) rfl)⟩
theorem f_X6_15 : JFld RX6 15 6 1 "I" false := ⟨by decide, (RX6, TX6, 2), rfl, by decide, rfl, rfl, Or.inl (tb_mem 108 (by decide +kernel) rfl)⟩
theorem f_X7_9 : JFld RX7 9 7 0 "LChipBurner$Chip;" true := ⟨by decide, (RX7, TX7, 7), rfl, by decide, rfl, rfl, Or.inl (tb_mem 836 (by decide +kernel) rfl)⟩
theorem f_X7_15 : JFld RX7 15 7 1 "LChipBurner$Recipe;" true := ⟨by decide, (RX7, TX7, 7), rfl, by decide, rfl, rfl, Or.inl (tb_mem 837 (by decide +kernel) rfl)⟩
theorem f_X7_19 : JFld RX7 19 7 2 "I" false := ⟨by decide, (RX7, TX7, 7), rfl, by decide, rfl, rfl, Or.inl (tb_mem 838 (by decide +kernel) rfl)⟩
theorem f_X7_23 : JFld RX7 23 7 3 "I" false := ⟨by decide, (RX7, TX7, 7), rfl, by decide, rfl, rfl, Or.inl (tb_mem 840 (by decide +kernel) rfl)⟩
theorem f_X7_26 : JFld RX7 26 7 4 "I" false := ⟨by decide, (RX7, TX7, 7), rfl, by decide, rfl, rfl, Or.inl (tb_mem 841 (by decide +kernel) rfl)⟩
theorem f_X7_29 : JFld RX7 29 7 5 "I" false := ⟨by decide, (RX7, TX7, 7), rfl, by decide, rfl, rfl, Or.inl (tb_mem 842 (by decide +kernel) rfl)⟩
theorem f_X7_32 : JFld RX7 32 7 6 "Z" false := ⟨by decide, (RX7, TX7, 7), rfl, by decide, rfl, rfl, Or.inl (tb_mem 843 (by decide +kernel) rfl)⟩
theorem f_X7_36 : JFld RX7 36 4 4 "I" false := ⟨by decide, (RX4, TX4, 8), rfl, by decide, rfl, rfl, Or.inr ⟨"ChipBurner", List.mem_of_getElem? (i := 223) (by decide +kernel)⟩⟩
theorem f_X9_7 : JFld RX9 7 9 0 "[I" true := ⟨by decide, (RX9, TX9, 56), rfl, by decide, rfl, rfl, Or.inl (tb_mem 911 (by decide +kernel) rfl)⟩
theorem f_X9_13 : JFld RX9 13 9 1 "[I" true := ⟨by decide, (RX9, TX9, 56), rfl, by decide, rfl, rfl, Or.inl (tb_mem 912 (by decide +kernel) rfl)⟩
theorem f_X9_16 : JFld RX9 16 9 3 "I" false := ⟨by decide, (RX9, TX9, 56), rfl, by decide, rfl, rfl, Or.inl (tb_mem 914 (by decide +kernel) rfl)⟩
theorem f_X9_20 : JFld RX9 20 9 4 "I" false := ⟨by decide, (RX9, TX9, 56), rfl, by decide, rfl, rfl, Or.inl (tb_mem 915 (by decide +kernel) rfl)⟩
theorem f_X9_23 : JFld RX9 23 9 6 "[I" true := ⟨by decide, (RX9, TX9, 56), rfl, by decide, rfl, rfl, Or.inl (tb_mem 917 (by decide +kernel) rfl)⟩
theorem f_X9_26 : JFld RX9 26 9 7 "[Z" true := ⟨by decide, (RX9, TX9, 56), rfl, by decide, rfl, rfl, Or.inl (tb_mem 918 (by decide +kernel) rfl)⟩
theorem f_X9_30 : JFld RX9 30 9 9 "[I" true := ⟨by decide, (RX9, TX9, 56), rfl, by decide, rfl, rfl, Or.inl (tb_mem 920 (by decide +kernel) rfl)⟩
theorem f_X9_33 : JFld RX9 33 9 13 "[I" true := ⟨by decide, (RX9, TX9, 56), rfl, by decide, rfl, rfl, Or.inl (tb_mem 924 (by decide +kernel) rfl)⟩
theorem f_X9_36 : JFld RX9 36 9 14 "[I" true := ⟨by decide, (RX9, TX9, 56), rfl, by decide, rfl, rfl, Or.inl (tb_mem 925 (by decide +kernel) rfl)⟩
theorem f_X9_39 : JFld RX9 39 9 15 "[Z" true := ⟨by decide, (RX9, TX9, 56), rfl, by decide, rfl, rfl, Or.inl (tb_mem 926 (by decide +kernel) rfl)⟩
theorem f_X9_42 : JFld RX9 42 9 16 "[I" true := ⟨by decide, (RX9, TX9, 56), rfl, by decide, rfl, rfl, Or.inl (tb_mem 927 (by decide +kernel) rfl)⟩
theorem f_X9_45 : JFld RX9 45 9 17 "[I" true := ⟨by decide, (RX9, TX9, 56), rfl, by decide, rfl, rfl, Or.inl (tb_mem 928 (by decide +kernel) rfl)⟩
theorem f_X9_48 : JFld RX9 48 9 18 "[I" true := ⟨by decide, (RX9, TX9, 56), rfl, by decide, rfl, rfl, Or.inl (tb_mem 929 (by decide +kernel) rfl)⟩
theorem f_X9_51 : JFld RX9 51 9 19 "[I" true := ⟨by decide, (RX9, TX9, 56), rfl, by decide, rfl, rfl, Or.inl (tb_mem 930 (by decide +kernel) rfl)⟩
theorem f_X9_54 : JFld RX9 54 9 20 "[I" true := ⟨by decide, (RX9, TX9, 56), rfl, by decide, rfl, rfl, Or.inl (tb_mem 931 (by decide +kernel) rfl)⟩
theorem f_X9_57 : JFld RX9 57 9 21 "[I" true := ⟨by decide, (RX9, TX9, 56), rfl, by decide, rfl, rfl, Or.inl (tb_mem 932 (by decide +kernel) rfl)⟩
theorem f_X9_60 : JFld RX9 60 9 22 "[J" true := ⟨by decide, (RX9, TX9, 56), rfl, by decide, rfl, rfl, Or.inl (tb_mem 933 (by decide +kernel) rfl)⟩
theorem f_X9_64 : JFld RX9 64 9 23 "[I" true := ⟨by decide, (RX9, TX9, 56), rfl, by decide, rfl, rfl, Or.inl (tb_mem 934 (by decide +kernel) rfl)⟩
theorem f_X9_67 : JFld RX9 67 9 24 "[I" true := ⟨by decide, (RX9, TX9, 56), rfl, by decide, rfl, rfl, Or.inl (tb_mem 935 (by decide +kernel) rfl)⟩
theorem f_X9_70 : JFld RX9 70 9 25 "[I" true := ⟨by decide, (RX9, TX9, 56), rfl, by decide, rfl, rfl, Or.inl (tb_mem 936 (by decide +kernel) rfl)⟩
theorem f_X9_73 : JFld RX9 73 9 26 "[I" true := ⟨by decide, (RX9, TX9, 56), rfl, by decide, rfl, rfl, Or.inl (tb_mem 937 (by decide +kernel) rfl)⟩
theorem f_X9_76 : JFld RX9 76 9 27 "[I" true := ⟨by decide, (RX9, TX9, 56), rfl, by decide, rfl, rfl, Or.inl (tb_mem 938 (by decide +kernel) rfl)⟩
theorem f_X9_79 : JFld RX9 79 9 28 "[Z" true := ⟨by decide, (RX9, TX9, 56), rfl, by decide, rfl, rfl, Or.inl (tb_mem 939 (by decide +kernel) rfl)⟩
theorem f_X9_82 : JFld RX9 82 9 29 "[Z" true := ⟨by decide, (RX9, TX9, 56), rfl, by decide, rfl, rfl, Or.inl (tb_mem 940 (by decide +kernel) rfl)⟩
theorem f_X9_85 : JFld RX9 85 9 30 "[I" true := ⟨by decide, (RX9, TX9, 56), rfl, by decide, rfl, rfl, Or.inl (tb_mem 941 (by decide +kernel) rfl)⟩
theorem f_X9_88 : JFld RX9 88 9 31 "[I" true := ⟨by decide, (RX9, TX9, 56), rfl, by decide, rfl, rfl, Or.inl (tb_mem 942 (by decide +kernel) rfl)⟩
theorem f_X9_91 : JFld RX9 91 9 32 "[I" true := ⟨by decide, (RX9, TX9, 56), rfl, by decide, rfl, rfl, Or.inl (tb_mem 943 (by decide +kernel) rfl)⟩
theorem f_X9_94 : JFld RX9 94 9 33 "[I" true := ⟨by decide, (RX9, TX9, 56), rfl, by decide, rfl, rfl, Or.inl (tb_mem 944 (by decide +kernel) rfl)⟩
theorem f_X9_97 : JFld RX9 97 9 34 "[I" true := ⟨by decide, (RX9, TX9, 56), rfl, by decide, rfl, rfl, Or.inl (tb_mem 945 (by decide +kernel) rfl)⟩
theorem f_X9_100 : JFld RX9 100 9 35 "[I" true := ⟨by decide, (RX9, TX9, 56), rfl, by decide, rfl, rfl, Or.inl (tb_mem 946 (by decide +kernel) rfl)⟩
theorem f_X9_103 : JFld RX9 103 9 36 "[I" true := ⟨by decide, (RX9, TX9, 56), rfl, by decide, rfl, rfl, Or.inl (tb_mem 947 (by decide +kernel) rfl)⟩
theorem f_X9_106 : JFld RX9 106 9 41 "[I" true := ⟨by decide, (RX9, TX9, 56), rfl, by decide, rfl, rfl, Or.inl (tb_mem 952 (by decide +kernel) rfl)⟩
theorem f_X9_109 : JFld RX9 109 9 42 "[I" true := ⟨by decide, (RX9, TX9, 56), rfl, by decide, rfl, rfl, Or.inl (tb_mem 953 (by decide +kernel) rfl)⟩
theorem f_X9_112 : JFld RX9 112 9 43 "[I" true := ⟨by decide, (RX9, TX9, 56), rfl, by decide, rfl, rfl, Or.inl (tb_mem 954 (by decide +kernel) rfl)⟩
theorem f_X9_115 : JFld RX9 115 9 44 "[I" true := ⟨by decide, (RX9, TX9, 56), rfl, by decide, rfl, rfl, Or.inl (tb_mem 955 (by decide +kernel) rfl)⟩
theorem f_X9_118 : JFld RX9 118 9 45 "[I" true := ⟨by decide, (RX9, TX9, 56), rfl, by decide, rfl, rfl, Or.inl (tb_mem 956 (by decide +kernel) rfl)⟩
theorem f_X9_121 : JFld RX9 121 9 46 "[I" true := ⟨by decide, (RX9, TX9, 56), rfl, by decide, rfl, rfl, Or.inl (tb_mem 957 (by decide +kernel) rfl)⟩
theorem f_X9_124 : JFld RX9 124 9 52 "[I" true := ⟨by decide, (RX9, TX9, 56), rfl, by decide, rfl, rfl, Or.inl (tb_mem 963 (by decide +kernel) rfl)⟩
theorem f_X9_127 : JFld RX9 127 9 54 "[I" true := ⟨by decide, (RX9, TX9, 56), rfl, by decide, rfl, rfl, Or.inl (tb_mem 965 (by decide +kernel) rfl)⟩
theorem f_X9_130 : JFld RX9 130 9 2 "I" false := ⟨by decide, (RX9, TX9, 56), rfl, by decide, rfl, rfl, Or.inl (tb_mem 913 (by decide +kernel) rfl)⟩
theorem f_X9_145 : JFld RX9 145 9 8 "I" false := ⟨by decide, (RX9, TX9, 56), rfl, by decide, rfl, rfl, Or.inl (tb_mem 919 (by decide +kernel) rfl)⟩
theorem f_X9_155 : JFld RX9 155 9 10 "Z" false := ⟨by decide, (RX9, TX9, 56), rfl, by decide, rfl, rfl, Or.inl (tb_mem 921 (by decide +kernel) rfl)⟩
theorem f_X9_179 : JFld RX9 179 9 5 "J" false := ⟨by decide, (RX9, TX9, 56), rfl, by decide, rfl, rfl, Or.inl (tb_mem 916 (by decide +kernel) rfl)⟩
theorem f_X9_186 : JFld RX9 186 9 11 "I" false := ⟨by decide, (RX9, TX9, 56), rfl, by decide, rfl, rfl, Or.inl (tb_mem 922 (by decide +kernel) rfl)⟩
theorem f_X9_196 : JFld RX9 196 9 12 "I" false := ⟨by decide, (RX9, TX9, 56), rfl, by decide, rfl, rfl, Or.inl (tb_mem 923 (by decide +kernel) rfl)⟩
theorem f_X9_227 : JFld RX9 227 9 37 "I" false := ⟨by decide, (RX9, TX9, 56), rfl, by decide, rfl, rfl, Or.inl (tb_mem 948 (by decide +kernel) rfl)⟩
theorem f_X9_233 : JFld RX9 233 9 38 "I" false := ⟨by decide, (RX9, TX9, 56), rfl, by decide, rfl, rfl, Or.inl (tb_mem 949 (by decide +kernel) rfl)⟩
theorem f_X9_236 : JFld RX9 236 9 39 "I" false := ⟨by decide, (RX9, TX9, 56), rfl, by decide, rfl, rfl, Or.inl (tb_mem 950 (by decide +kernel) rfl)⟩
theorem f_X9_242 : JFld RX9 242 9 40 "I" false := ⟨by decide, (RX9, TX9, 56), rfl, by decide, rfl, rfl, Or.inl (tb_mem 951 (by decide +kernel) rfl)⟩
theorem f_X9_253 : JFld RX9 253 9 50 "I" false := ⟨by decide, (RX9, TX9, 56), rfl, by decide, rfl, rfl, Or.inl (tb_mem 961 (by decide +kernel) rfl)⟩
theorem f_X9_256 : JFld RX9 256 9 47 "I" false := ⟨by decide, (RX9, TX9, 56), rfl, by decide, rfl, rfl, Or.inl (tb_mem 958 (by decide +kernel) rfl)⟩
theorem f_X9_259 : JFld RX9 259 9 48 "I" false := ⟨by decide, (RX9, TX9, 56), rfl, by decide, rfl, rfl, Or.inl (tb_mem 959 (by decide +kernel) rfl)⟩
theorem f_X9_262 : JFld RX9 262 9 49 "I" false := ⟨by decide, (RX9, TX9, 56), rfl, by decide, rfl, rfl, Or.inl (tb_mem 960 (by decide +kernel) rfl)⟩
theorem f_X9_269 : JFld RX9 269 9 51 "I" false := ⟨by decide, (RX9, TX9, 56), rfl, by decide, rfl, rfl, Or.inl (tb_mem 962 (by decide +kernel) rfl)⟩
theorem f_X9_298 : JFld RX9 298 9 53 "Z" false := ⟨by decide, (RX9, TX9, 56), rfl, by decide, rfl, rfl, Or.inl (tb_mem 964 (by decide +kernel) rfl)⟩
theorem f_X9_324 : JFld RX9 324 9 55 "I" false := ⟨by decide, (RX9, TX9, 56), rfl, by decide, rfl, rfl, Or.inl (tb_mem 966 (by decide +kernel) rfl)⟩
theorem l_X0_18 : JLk RX0 18 yX8_isSize := Or.inr ⟨"ChipBurner", List.mem_of_getElem? (i := 461) (by decide +kernel)⟩
theorem l_X0_49 : JLk RX0 49 yJ7_fill_53178 := Or.inl (tb_mem 462 (by decide +kernel) rfl)
theorem l_X0_70 : JLk RX0 70 yX0_isAddress := Or.inl (tb_mem 540 (by decide +kernel) rfl)
theorem l_X0_73 : JLk RX0 73 yX0_blockCount := Or.inl (tb_mem 552 (by decide +kernel) rfl)
theorem l_X0_77 : JLk RX0 77 yX8_isWithin := Or.inr ⟨"ChipBurner", List.mem_of_getElem? (i := 556) (by decide +kernel)⟩
theorem l_X0_84 : JLk RX0 84 yX0_logicalCount := Or.inl (tb_mem 581 (by decide +kernel) rfl)
theorem l_X0_87 : JLk RX0 87 yX0_firstLackingPin := Or.inl (tb_mem 585 (by decide +kernel) rfl)
theorem l_X0_93 : JLk RX0 93 yX0_addressOf := Or.inl (tb_mem 593 (by decide +kernel) rfl)
theorem l_X2_108 : JLk RX2 108 yX6_pairAt := Or.inl (tb_mem 376 (by decide +kernel) rfl)
theorem l_X2_111 : JLk RX2 111 yX2_areDigits := Or.inl (tb_mem 367 (by decide +kernel) rfl)
theorem l_X2_114 : JLk RX2 114 yX6_digitAt := Or.inl (tb_mem 371 (by decide +kernel) rfl)
theorem l_X2_23 : JLk RX2 23 yJ9_min_7cf53 := Or.inl (tb_mem 320 (by decide +kernel) rfl)
theorem l_X2_35 : JLk RX2 35 yX1_start := Or.inl (tb_mem 326 (by decide +kernel) rfl)
theorem l_X2_44 : JLk RX2 44 yX2_takePlain := Or.inl (tb_mem 330 (by decide +kernel) rfl)
theorem l_X2_47 : JLk RX2 47 yX2_takeLines := Or.inl (tb_mem 347 (by decide +kernel) rfl)
theorem l_X2_51 : JLk RX2 51 yX1_isFault := Or.inl (tb_mem 351 (by decide +kernel) rfl)
theorem l_X2_55 : JLk RX2 55 yX6_size := Or.inl (tb_mem 334 (by decide +kernel) rfl)
theorem l_X2_61 : JLk RX2 61 yX1_mark := Or.inl (tb_mem 335 (by decide +kernel) rfl)
theorem l_X2_65 : JLk RX2 65 yX6_at := Or.inl (tb_mem 339 (by decide +kernel) rfl)
theorem l_X2_69 : JLk RX2 69 yX2_stage := Or.inl (tb_mem 343 (by decide +kernel) rfl)
theorem l_X2_76 : JLk RX2 76 yX2_stopOf := Or.inl (tb_mem 355 (by decide +kernel) rfl)
theorem l_X2_79 : JLk RX2 79 yX2_takeLine := Or.inl (tb_mem 359 (by decide +kernel) rfl)
theorem l_X2_83 : JLk RX2 83 yX2_isColonLine := Or.inl (tb_mem 363 (by decide +kernel) rfl)
theorem l_X2_87 : JLk RX2 87 yX2_isSLine := Or.inl (tb_mem 381 (by decide +kernel) rfl)
theorem l_X2_90 : JLk RX2 90 yX2_sumOf := Or.inl (tb_mem 385 (by decide +kernel) rfl)
theorem l_X2_96 : JLk RX2 96 yX2_takeData := Or.inl (tb_mem 389 (by decide +kernel) rfl)
theorem l_X3_15 : JLk RX3 15 yX6_cutTo := Or.inl (tb_mem 413 (by decide +kernel) rfl)
theorem l_X3_21 : JLk RX3 21 yJ9_min_7cf53 := Or.inl (tb_mem 414 (by decide +kernel) rfl)
theorem l_X3_27 : JLk RX3 27 yX3_startLine := Or.inl (tb_mem 415 (by decide +kernel) rfl)
theorem l_X3_31 : JLk RX3 31 yX3_addByte := Or.inl (tb_mem 420 (by decide +kernel) rfl)
theorem l_X3_35 : JLk RX3 35 yX3_stopLine := Or.inl (tb_mem 432 (by decide +kernel) rfl)
theorem l_X3_42 : JLk RX3 42 yX6_add := Or.inl (tb_mem 419 (by decide +kernel) rfl)
theorem l_X3_45 : JLk RX3 45 yX3_addAddress := Or.inl (tb_mem 428 (by decide +kernel) rfl)
theorem l_X3_48 : JLk RX3 48 yX6_addDigit := Or.inl (tb_mem 424 (by decide +kernel) rfl)
theorem l_X4_31 : JLk RX4 31 yX4_isFull := Or.inl (tb_mem 732 (by decide +kernel) rfl)
theorem l_X4_35 : JLk RX4 35 yX4_isStep := Or.inl (tb_mem 646 (by decide +kernel) rfl)
theorem l_X4_39 : JLk RX4 39 yX4_volts := Or.inl (tb_mem 753 (by decide +kernel) rfl)
theorem l_X4_45 : JLk RX4 45 yX4_most := Or.inl (tb_mem 781 (by decide +kernel) rfl)
theorem l_X4_49 : JLk RX4 49 yJ9_min_f86c9 := Or.inl (tb_mem 788 (by decide +kernel) rfl)
theorem l_X4_68 : JLk RX4 68 yX4_kindOf := Or.inl (tb_mem 757 (by decide +kernel) rfl)
theorem l_X4_72 : JLk RX4 72 yX4_numberOf := Or.inl (tb_mem 761 (by decide +kernel) rfl)
theorem l_X4_75 : JLk RX4 75 yJ9_max_7cf53 := Or.inl (tb_mem 765 (by decide +kernel) rfl)
theorem l_X4_79 : JLk RX4 79 yX4_otherwiseOf := Or.inl (tb_mem 768 (by decide +kernel) rfl)
theorem l_X4_82 : JLk RX4 82 yX4_behindOf := Or.inl (tb_mem 772 (by decide +kernel) rfl)
theorem l_X4_85 : JLk RX4 85 yX4_voltsOfTry := Or.inl (tb_mem 776 (by decide +kernel) rfl)
theorem l_X4_89 : JLk RX4 89 yJ9_max_f86c9 := Or.inl (tb_mem 785 (by decide +kernel) rfl)
theorem l_X5_103 : JLk RX5 103 yX4_close := Or.inl (tb_mem 642 (by decide +kernel) rfl)
theorem l_X5_109 : JLk RX5 109 yX5_isWord := Or.inl (tb_mem 651 (by decide +kernel) rfl)
theorem l_X5_113 : JLk RX5 113 yX4_startOtherwise := Or.inl (tb_mem 703 (by decide +kernel) rfl)
theorem l_X5_116 : JLk RX5 116 yX5_tokenNumber := Or.inl (tb_mem 737 (by decide +kernel) rfl)
theorem l_X5_119 : JLk RX5 119 yX4_setNumber := Or.inl (tb_mem 741 (by decide +kernel) rfl)
theorem l_X5_135 : JLk RX5 135 yJ0_length_8abf5 := Or.inl (tb_mem 655 (by decide +kernel) rfl)
theorem l_X5_140 : JLk RX5 140 yX6_at := Or.inl (tb_mem 620 (by decide +kernel) rfl)
theorem l_X5_143 : JLk RX5 143 yJ0_charAt_5068e := Or.inl (tb_mem 665 (by decide +kernel) rfl)
theorem l_X5_147 : JLk RX5 147 yJ9_min_7cf53 := Or.inl (tb_mem 624 (by decide +kernel) rfl)
theorem l_X5_153 : JLk RX5 153 yX5_behindBlanks := Or.inl (tb_mem 616 (by decide +kernel) rfl)
theorem l_X5_156 : JLk RX5 156 yX5_kindOfByte := Or.inl (tb_mem 621 (by decide +kernel) rfl)
theorem l_X5_159 : JLk RX5 159 yX5_behindSame := Or.inl (tb_mem 625 (by decide +kernel) rfl)
theorem l_X5_27 : JLk RX5 27 yX1_start := Or.inl (tb_mem 605 (by decide +kernel) rfl)
theorem l_X5_32 : JLk RX5 32 yX6_size := Or.inl (tb_mem 606 (by decide +kernel) rfl)
theorem l_X5_38 : JLk RX5 38 yX1_mark := Or.inl (tb_mem 607 (by decide +kernel) rfl)
theorem l_X5_42 : JLk RX5 42 yX4_clear := Or.inl (tb_mem 608 (by decide +kernel) rfl)
theorem l_X5_54 : JLk RX5 54 yX5_nextToken := Or.inl (tb_mem 612 (by decide +kernel) rfl)
theorem l_X5_60 : JLk RX5 60 yX5_isSign := Or.inl (tb_mem 629 (by decide +kernel) rfl)
theorem l_X5_64 : JLk RX5 64 yX5_takeClosing := Or.inl (tb_mem 633 (by decide +kernel) rfl)
theorem l_X5_68 : JLk RX5 68 yX5_takeStep := Or.inl (tb_mem 711 (by decide +kernel) rfl)
theorem l_X5_71 : JLk RX5 71 yX5_refuse := Or.inl (tb_mem 638 (by decide +kernel) rfl)
theorem l_X5_74 : JLk RX5 74 yX4_measure := Or.inl (tb_mem 749 (by decide +kernel) rfl)
theorem l_X5_77 : JLk RX5 77 yX5_stepKind := Or.inl (tb_mem 715 (by decide +kernel) rfl)
theorem l_X5_80 : JLk RX5 80 yX4_isFull := Or.inl (tb_mem 724 (by decide +kernel) rfl)
theorem l_X5_84 : JLk RX5 84 yX4_addStep := Or.inl (tb_mem 728 (by decide +kernel) rfl)
theorem l_X5_88 : JLk RX5 88 yX5_takeNumber := Or.inl (tb_mem 733 (by decide +kernel) rfl)
theorem l_X5_92 : JLk RX5 92 yX5_takeSign := Or.inl (tb_mem 707 (by decide +kernel) rfl)
theorem l_X5_95 : JLk RX5 95 yX5_takeOpening := Or.inl (tb_mem 745 (by decide +kernel) rfl)
theorem l_X5_99 : JLk RX5 99 yX8_isWithin := Or.inr ⟨"ChipBurner", List.mem_of_getElem? (i := 637) (by decide +kernel)⟩
theorem l_X6_19 : JLk RX6 19 yX6_add := Or.inl (tb_mem 297 (by decide +kernel) rfl)
theorem l_X6_23 : JLk RX6 23 yX6_at := Or.inl (tb_mem 375 (by decide +kernel) rfl)
theorem l_X6_27 : JLk RX6 27 yX6_digitAt := Or.inl (tb_mem 380 (by decide +kernel) rfl)
theorem l_X7_41 : JLk RX7 41 yX7_workSteps := Or.inl (tb_mem 867 (by decide +kernel) rfl)
theorem l_X7_45 : JLk RX7 45 yX7_workStep := Or.inl (tb_mem 871 (by decide +kernel) rfl)
theorem l_X7_49 : JLk RX7 49 yX4_behindOf := Or.inl (tb_mem 886 (by decide +kernel) rfl)
theorem l_X7_53 : JLk RX7 53 yJ9_max_7cf53 := Or.inl (tb_mem 892 (by decide +kernel) rfl)
theorem l_X7_59 : JLk RX7 59 yX4_kindOf := Or.inl (tb_mem 875 (by decide +kernel) rfl)
theorem l_X7_62 : JLk RX7 62 yX4_numberOf := Or.inl (tb_mem 876 (by decide +kernel) rfl)
theorem l_X7_65 : JLk RX7 65 yX7_givePulses := Or.inl (tb_mem 877 (by decide +kernel) rfl)
theorem l_X7_69 : JLk RX7 69 yX0_isRight := Or.inl (tb_mem 885 (by decide +kernel) rfl)
theorem l_X7_75 : JLk RX7 75 yX7_workBranch := Or.inl (tb_mem 887 (by decide +kernel) rfl)
theorem l_X7_78 : JLk RX7 78 yX4_otherwiseOf := Or.inl (tb_mem 891 (by decide +kernel) rfl)
theorem l_X7_81 : JLk RX7 81 yX0_takePulse := Or.inl (tb_mem 881 (by decide +kernel) rfl)
theorem l_X8_103 : JLk RX8 103 yJ9_min_f86c9 := Or.inl (tb_mem 394 (by decide +kernel) rfl)
theorem l_X8_115 : JLk RX8 115 yX3_lengthOf := Or.inl (tb_mem 405 (by decide +kernel) rfl)
theorem l_X8_119 : JLk RX8 119 yX3_writeOut := Or.inl (tb_mem 409 (by decide +kernel) rfl)
theorem l_X8_123 : JLk RX8 123 yX6_at := Or.inl (tb_mem 440 (by decide +kernel) rfl)
theorem l_X8_127 : JLk RX8 127 yX8_isSize := Or.inl (tb_mem 453 (by decide +kernel) rfl)
theorem l_X8_133 : JLk RX8 133 yX0_init := Or.inl (tb_mem 457 (by decide +kernel) rfl)
theorem l_X8_136 : JLk RX8 136 yX0_setLimits := Or.inl (tb_mem 520 (by decide +kernel) rfl)
theorem l_X8_140 : JLk RX8 140 yX0_setWear := Or.inl (tb_mem 524 (by decide +kernel) rfl)
theorem l_X8_144 : JLk RX8 144 yX8_chipAt := Or.inl (tb_mem 532 (by decide +kernel) rfl)
theorem l_X8_148 : JLk RX8 148 yX0_setNeed := Or.inl (tb_mem 536 (by decide +kernel) rfl)
theorem l_X8_152 : JLk RX8 152 yX0_setBad := Or.inl (tb_mem 548 (by decide +kernel) rfl)
theorem l_X8_156 : JLk RX8 156 yX0_setContact := Or.inl (tb_mem 561 (by decide +kernel) rfl)
theorem l_X8_163 : JLk RX8 163 yX0_wipe := Or.inl (tb_mem 569 (by decide +kernel) rfl)
theorem l_X8_169 : JLk RX8 169 yX0_property := Or.inl (tb_mem 577 (by decide +kernel) rfl)
theorem l_X8_172 : JLk RX8 172 yX0_cell := Or.inl (tb_mem 589 (by decide +kernel) rfl)
theorem l_X8_175 : JLk RX8 175 yX5_readInto := Or.inl (tb_mem 601 (by decide +kernel) rfl)
theorem l_X8_181 : JLk RX8 181 yX8_recipeAt := Or.inl (tb_mem 794 (by decide +kernel) rfl)
theorem l_X8_194 : JLk RX8 194 yX8_isPart := Or.inl (tb_mem 802 (by decide +kernel) rfl)
theorem l_X8_197 : JLk RX8 197 yX8_hindrance := Or.inl (tb_mem 805 (by decide +kernel) rfl)
theorem l_X8_204 : JLk RX8 204 yX7_init := Or.inl (tb_mem 832 (by decide +kernel) rfl)
theorem l_X8_207 : JLk RX8 207 yX8_reachOf := Or.inl (tb_mem 814 (by decide +kernel) rfl)
theorem l_X8_214 : JLk RX8 214 yX0_addressOf := Or.inl (tb_mem 819 (by decide +kernel) rfl)
theorem l_X8_217 : JLk RX8 217 yX8_image := Or.inl (tb_mem 820 (by decide +kernel) rfl)
theorem l_X8_22 : JLk RX8 22 yX1_init := Or.inr ⟨"ChipBurner", List.mem_of_getElem? (i := 117) (by decide +kernel)⟩
theorem l_X8_220 : JLk RX8 220 yX0_isRight := Or.inl (tb_mem 859 (by decide +kernel) rfl)
theorem l_X8_223 : JLk RX8 223 yX7_workAt := Or.inl (tb_mem 863 (by decide +kernel) rfl)
theorem l_X8_226 : JLk RX8 226 yX0_logicalCount := Or.inl (tb_mem 817 (by decide +kernel) rfl)
theorem l_X8_229 : JLk RX8 229 yJ9_min_7cf53 := Or.inl (tb_mem 818 (by decide +kernel) rfl)
theorem l_X8_231 : JLk RX8 231 yX0_firstLackingPin := Or.inl (tb_mem 809 (by decide +kernel) rfl)
theorem l_X8_237 : JLk RX8 237 yX4_fits := Or.inl (tb_mem 810 (by decide +kernel) rfl)
theorem l_X8_241 : JLk RX8 241 yX0_mustGoBack := Or.inl (tb_mem 821 (by decide +kernel) rfl)
theorem l_X8_29 : JLk RX8 29 yX2_init := Or.inl (tb_mem 132 (by decide +kernel) rfl)
theorem l_X8_38 : JLk RX8 38 yX3_init := Or.inl (tb_mem 166 (by decide +kernel) rfl)
theorem l_X8_47 : JLk RX8 47 yX5_init := Or.inl (tb_mem 179 (by decide +kernel) rfl)
theorem l_X8_64 : JLk RX8 64 yX4_init := Or.inr ⟨"ChipBurner", List.mem_of_getElem? (i := 214) (by decide +kernel)⟩
theorem l_X8_69 : JLk RX8 69 yJ7_fill_53178 := Or.inl (tb_mem 248 (by decide +kernel) rfl)
theorem l_X8_75 : JLk RX8 75 yX6_size := Or.inl (tb_mem 289 (by decide +kernel) rfl)
theorem l_X8_79 : JLk RX8 79 yX6_addFour := Or.inl (tb_mem 293 (by decide +kernel) rfl)
theorem l_X8_83 : JLk RX8 83 yX6_cutTo := Or.inl (tb_mem 305 (by decide +kernel) rfl)
theorem l_X8_87 : JLk RX8 87 yX8_isWithin := Or.inl (tb_mem 313 (by decide +kernel) rfl)
theorem l_X8_9 : JLk RX8 9 yX6_init := Or.inr ⟨"ChipBurner", List.mem_of_getElem? (i := 103) (by decide +kernel)⟩
theorem l_X8_91 : JLk RX8 91 yX2_readInto := Or.inl (tb_mem 316 (by decide +kernel) rfl)
theorem l_L_102 : JLk RL 102 yX9_read := Or.inl (tb_mem 1330 (by decide +kernel) rfl)
theorem l_L_103 : JLk RL 103 yX8_about := Or.inl (tb_mem 901 (by decide +kernel) rfl)
theorem l_L_106 : JLk RL 106 yX9_about := Or.inl (tb_mem 1334 (by decide +kernel) rfl)
theorem l_L_12 : JLk RL 12 yX9_init := Or.inl (tb_mem 907 (by decide +kernel) rfl)
theorem l_L_13 : JLk RL 13 yX8_feed := Or.inl (tb_mem 285 (by decide +kernel) rfl)
theorem l_L_17 : JLk RL 17 yX9_feed := Or.inl (tb_mem 1081 (by decide +kernel) rfl)
theorem l_L_18 : JLk RL 18 yX8_end := Or.inl (tb_mem 301 (by decide +kernel) rfl)
theorem l_L_22 : JLk RL 22 yX9_end := Or.inl (tb_mem 1089 (by decide +kernel) rfl)
theorem l_L_23 : JLk RL 23 yX8_file := Or.inl (tb_mem 309 (by decide +kernel) rfl)
theorem l_L_26 : JLk RL 26 yX9_file := Or.inl (tb_mem 1108 (by decide +kernel) rfl)
theorem l_L_27 : JLk RL 27 yX8_fault := Or.inl (tb_mem 397 (by decide +kernel) rfl)
theorem l_L_30 : JLk RL 30 yX9_fault := Or.inl (tb_mem 1147 (by decide +kernel) rfl)
theorem l_L_31 : JLk RL 31 yX8_write := Or.inl (tb_mem 401 (by decide +kernel) rfl)
theorem l_L_35 : JLk RL 35 yX9_write := Or.inl (tb_mem 1151 (by decide +kernel) rfl)
theorem l_L_36 : JLk RL 36 yX8_tape := Or.inl (tb_mem 436 (by decide +kernel) rfl)
theorem l_L_39 : JLk RL 39 yX9_tape := Or.inl (tb_mem 1096 (by decide +kernel) rfl)
theorem l_L_40 : JLk RL 40 yX8_image := Or.inl (tb_mem 441 (by decide +kernel) rfl)
theorem l_L_43 : JLk RL 43 yX9_image := Or.inl (tb_mem 1100 (by decide +kernel) rfl)
theorem l_L_44 : JLk RL 44 yX8_fill := Or.inl (tb_mem 445 (by decide +kernel) rfl)
theorem l_L_48 : JLk RL 48 yX9_fill := Or.inl (tb_mem 1104 (by decide +kernel) rfl)
theorem l_L_49 : JLk RL 49 yX8_chip := Or.inl (tb_mem 449 (by decide +kernel) rfl)
theorem l_L_53 : JLk RL 53 yX9_chip := Or.inl (tb_mem 1167 (by decide +kernel) rfl)
theorem l_L_54 : JLk RL 54 yX8_need := Or.inl (tb_mem 528 (by decide +kernel) rfl)
theorem l_L_58 : JLk RL 58 yX9_need := Or.inl (tb_mem 1171 (by decide +kernel) rfl)
theorem l_L_59 : JLk RL 59 yX8_bad := Or.inl (tb_mem 544 (by decide +kernel) rfl)
theorem l_L_63 : JLk RL 63 yX9_bad := Or.inl (tb_mem 1183 (by decide +kernel) rfl)
theorem l_L_64 : JLk RL 64 yX8_contact := Or.inl (tb_mem 557 (by decide +kernel) rfl)
theorem l_L_67 : JLk RL 67 yX9_contact := Or.inl (tb_mem 1187 (by decide +kernel) rfl)
theorem l_L_68 : JLk RL 68 yX8_erase := Or.inl (tb_mem 565 (by decide +kernel) rfl)
theorem l_L_71 : JLk RL 71 yX9_erase := Or.inl (tb_mem 1191 (by decide +kernel) rfl)
theorem l_L_72 : JLk RL 72 yX8_chipOf := Or.inl (tb_mem 573 (by decide +kernel) rfl)
theorem l_L_76 : JLk RL 76 yX9_chipOf := Or.inl (tb_mem 1195 (by decide +kernel) rfl)
theorem l_L_77 : JLk RL 77 yX8_recipe := Or.inl (tb_mem 597 (by decide +kernel) rfl)
theorem l_L_80 : JLk RL 80 yX9_recipe := Or.inl (tb_mem 1213 (by decide +kernel) rfl)
theorem l_L_81 : JLk RL 81 yX8_walk := Or.inl (tb_mem 790 (by decide +kernel) rfl)
theorem l_L_84 : JLk RL 84 yX9_walk := Or.inl (tb_mem 1273 (by decide +kernel) rfl)
theorem l_L_85 : JLk RL 85 yX8_why := Or.inl (tb_mem 798 (by decide +kernel) rfl)
theorem l_L_88 : JLk RL 88 yX9_why := Or.inl (tb_mem 1290 (by decide +kernel) rfl)
theorem l_L_89 : JLk RL 89 yX8_burn := Or.inl (tb_mem 825 (by decide +kernel) rfl)
theorem l_L_9 : JLk RL 9 yX8_init := Or.inl (tb_mem 95 (by decide +kernel) rfl)
theorem l_L_93 : JLk RL 93 yX9_burn := Or.inl (tb_mem 1309 (by decide +kernel) rfl)
theorem l_L_94 : JLk RL 94 yX8_wrong := Or.inl (tb_mem 893 (by decide +kernel) rfl)
theorem l_L_97 : JLk RL 97 yX9_wrong := Or.inl (tb_mem 1326 (by decide +kernel) rfl)
theorem l_L_98 : JLk RL 98 yX8_read := Or.inl (tb_mem 897 (by decide +kernel) rfl)
theorem l_X9_133 : JLk RX9 133 yX9_four := Or.inl (tb_mem 1085 (by decide +kernel) rfl)
theorem l_X9_137 : JLk RX9 137 yX9_isIn := Or.inl (tb_mem 1093 (by decide +kernel) rfl)
theorem l_X9_141 : JLk RX9 141 yX9_digitOf := Or.inl (tb_mem 1132 (by decide +kernel) rfl)
theorem l_X9_148 : JLk RX9 148 yX9_bytes := Or.inl (tb_mem 1128 (by decide +kernel) rfl)
theorem l_X9_152 : JLk RX9 152 yX9_sumOf := Or.inl (tb_mem 1135 (by decide +kernel) rfl)
theorem l_X9_159 : JLk RX9 159 yX9_data := Or.inl (tb_mem 1139 (by decide +kernel) rfl)
theorem l_X9_162 : JLk RX9 162 yX9_put := Or.inl (tb_mem 1116 (by decide +kernel) rfl)
theorem l_X9_166 : JLk RX9 166 yX9_lineOne := Or.inl (tb_mem 1124 (by decide +kernel) rfl)
theorem l_X9_169 : JLk RX9 169 yX9_lineTwo := Or.inl (tb_mem 1143 (by decide +kernel) rfl)
theorem l_X9_172 : JLk RX9 172 yX9_readPlain := Or.inl (tb_mem 1112 (by decide +kernel) rfl)
theorem l_X9_176 : JLk RX9 176 yX9_readLines := Or.inl (tb_mem 1120 (by decide +kernel) rfl)
theorem l_X9_183 : JLk RX9 183 yX9_writeSign := Or.inl (tb_mem 1159 (by decide +kernel) rfl)
theorem l_X9_189 : JLk RX9 189 yX9_writeByte := Or.inl (tb_mem 1163 (by decide +kernel) rfl)
theorem l_X9_192 : JLk RX9 192 yX9_writeLine := Or.inl (tb_mem 1155 (by decide +kernel) rfl)
theorem l_X9_199 : JLk RX9 199 yX9_isChip := Or.inl (tb_mem 1179 (by decide +kernel) rfl)
theorem l_X9_203 : JLk RX9 203 yX9_isAddress := Or.inl (tb_mem 1175 (by decide +kernel) rfl)
theorem l_X9_207 : JLk RX9 207 yX9_logicals := Or.inl (tb_mem 1199 (by decide +kernel) rfl)
theorem l_X9_210 : JLk RX9 210 yX9_addressOf := Or.inl (tb_mem 1203 (by decide +kernel) rfl)
theorem l_X9_213 : JLk RX9 213 yX9_lacking := Or.inl (tb_mem 1207 (by decide +kernel) rfl)
theorem l_X9_219 : JLk RX9 219 yX9_add := Or.inl (tb_mem 1239 (by decide +kernel) rfl)
theorem l_X9_230 : JLk RX9 230 yX9_see := Or.inl (tb_mem 1225 (by decide +kernel) rfl)
theorem l_X9_239 : JLk RX9 239 yX9_isDigit := Or.inl (tb_mem 1229 (by decide +kernel) rfl)
theorem l_X9_246 : JLk RX9 246 yX9_isLetter := Or.inl (tb_mem 1233 (by decide +kernel) rfl)
theorem l_X9_249 : JLk RX9 249 yX9_wordOf := Or.inl (tb_mem 1236 (by decide +kernel) rfl)
theorem l_X9_266 : JLk RX9 266 yX9_lesser := Or.inl (tb_mem 1258 (by decide +kernel) rfl)
theorem l_X9_272 : JLk RX9 272 yX9_nextToken := Or.inl (tb_mem 1221 (by decide +kernel) rfl)
theorem l_X9_275 : JLk RX9 275 yX9_order := Or.inl (tb_mem 1248 (by decide +kernel) rfl)
theorem l_X9_278 : JLk RX9 278 yX9_semicolon := Or.inl (tb_mem 1265 (by decide +kernel) rfl)
theorem l_X9_281 : JLk RX9 281 yX9_begin := Or.inl (tb_mem 1269 (by decide +kernel) rfl)
theorem l_X9_286 : JLk RX9 286 yX9_close := Or.inl (tb_mem 1254 (by decide +kernel) rfl)
theorem l_X9_289 : JLk RX9 289 yX9_brace := Or.inl (tb_mem 1244 (by decide +kernel) rfl)
theorem l_X9_292 : JLk RX9 292 yX9_step := Or.inl (tb_mem 1261 (by decide +kernel) rfl)
theorem l_X9_295 : JLk RX9 295 yX9_readRecipe := Or.inl (tb_mem 1217 (by decide +kernel) rfl)
theorem l_X9_301 : JLk RX9 301 yX9_flowFrom := Or.inl (tb_mem 1281 (by decide +kernel) rfl)
theorem l_X9_304 : JLk RX9 304 yX9_flow := Or.inl (tb_mem 1285 (by decide +kernel) rfl)
theorem l_X9_307 : JLk RX9 307 yX9_mostVolts := Or.inl (tb_mem 1277 (by decide +kernel) rfl)
theorem l_X9_311 : JLk RX9 311 yX9_isFit := Or.inl (tb_mem 1301 (by decide +kernel) rfl)
theorem l_X9_314 : JLk RX9 314 yX9_last := Or.inl (tb_mem 1305 (by decide +kernel) rfl)
theorem l_X9_317 : JLk RX9 317 yX9_isPart := Or.inl (tb_mem 1294 (by decide +kernel) rfl)
theorem l_X9_320 : JLk RX9 320 yX9_whyNot := Or.inl (tb_mem 1297 (by decide +kernel) rfl)
theorem l_X9_327 : JLk RX9 327 yX9_pulse := Or.inl (tb_mem 1322 (by decide +kernel) rfl)
theorem l_X9_330 : JLk RX9 330 yX9_isWrong := Or.inl (tb_mem 1314 (by decide +kernel) rfl)
theorem l_X9_333 : JLk RX9 333 yX9_why := Or.inl (tb_mem 1313 (by decide +kernel) rfl)
theorem l_X9_336 : JLk RX9 336 yX9_work := Or.inl (tb_mem 1318 (by decide +kernel) rfl)
theorem l_J0_1059 : JLk RJ0 1059 yJ3_checkIndex_8e157 := Or.inl (tb_mem 681 (by decide +kernel) rfl)
theorem l_J0_335 : JLk RJ0 335 yJ0_coder_7d493 := Or.inl (tb_mem 659 (by decide +kernel) rfl)
theorem l_J0_492 : JLk RJ0 492 yJ0_isLatin1_aae02 := Or.inl (tb_mem 669 (by decide +kernel) rfl)
theorem l_J0_495 : JLk RJ0 495 yJ1_charAt_3b067 := Or.inl (tb_mem 673 (by decide +kernel) rfl)
theorem l_J0_498 : JLk RJ0 498 yJ2_charAt_3b067 := Or.inl (tb_mem 684 (by decide +kernel) rfl)
theorem l_J1_9 : JLk RJ1 9 yJ0_checkIndex_df160 := Or.inl (tb_mem 676 (by decide +kernel) rfl)
theorem l_J2_414 : JLk RJ2 414 yJ0_checkIndex_df160 := Or.inl (tb_mem 693 (by decide +kernel) rfl)
theorem l_J2_48 : JLk RJ2 48 yJ2_length_9d52b := Or.inl (tb_mem 690 (by decide +kernel) rfl)
theorem l_J2_67 : JLk RJ2 67 yJ2_checkIndex_2214a := Or.inl (tb_mem 687 (by decide +kernel) rfl)
theorem l_J2_71 : JLk RJ2 71 yJ2_getChar_3b067 := Or.inl (tb_mem 694 (by decide +kernel) rfl)
theorem tg_X8_init : JTg yX8_init cX8_init 2 none 0 := ⟨tb_mem 97 (by decide +kernel) rfl, tb_mem 76 (by decide +kernel) rfl, by decide +kernel, by decide⟩
theorem ii_X8_init : Cond.instanceMethod yX8_init ∈ TBg ∧ yX8_init.name = "<init>" := ⟨tb_mem 96 (by decide +kernel) rfl, rfl⟩
theorem tg_X6_init : JTg yX6_init cX6_init 1 none 0 := ⟨tb_mem 105 (by decide +kernel) rfl, tb_mem 77 (by decide +kernel) rfl, by decide +kernel, by decide⟩
theorem ii_X6_init : Cond.instanceMethod yX6_init ∈ TBg ∧ yX6_init.name = "<init>" := ⟨tb_mem 104 (by decide +kernel) rfl, rfl⟩
theorem tg_X1_init : JTg yX1_init cX1_init 1 none 0 := ⟨tb_mem 119 (by decide +kernel) rfl, tb_mem 78 (by decide +kernel) rfl, by decide +kernel, by decide⟩
theorem ii_X1_init : Cond.instanceMethod yX1_init ∈ TBg ∧ yX1_init.name = "<init>" := ⟨tb_mem 118 (by decide +kernel) rfl, rfl⟩
theorem tg_X2_init : JTg yX2_init cX2_init 3 none 2 := ⟨tb_mem 134 (by decide +kernel) rfl, tb_mem 79 (by decide +kernel) rfl, by decide +kernel, by decide⟩
theorem ii_X2_init : Cond.instanceMethod yX2_init ∈ TBg ∧ yX2_init.name = "<init>" := ⟨tb_mem 133 (by decide +kernel) rfl, rfl⟩
theorem tg_X3_init : JTg yX3_init cX3_init 2 none 1 := ⟨tb_mem 168 (by decide +kernel) rfl, tb_mem 80 (by decide +kernel) rfl, by decide +kernel, by decide⟩
theorem ii_X3_init : Cond.instanceMethod yX3_init ∈ TBg ∧ yX3_init.name = "<init>" := ⟨tb_mem 167 (by decide +kernel) rfl, rfl⟩
theorem tg_X5_init : JTg yX5_init cX5_init 3 none 2 := ⟨tb_mem 181 (by decide +kernel) rfl, tb_mem 81 (by decide +kernel) rfl, by decide +kernel, by decide⟩
theorem ii_X5_init : Cond.instanceMethod yX5_init ∈ TBg ∧ yX5_init.name = "<init>" := ⟨tb_mem 180 (by decide +kernel) rfl, rfl⟩
theorem tg_X4_init : JTg yX4_init cX4_init 1 none 0 := ⟨tb_mem 216 (by decide +kernel) rfl, tb_mem 82 (by decide +kernel) rfl, by decide +kernel, by decide⟩
theorem ii_X4_init : Cond.instanceMethod yX4_init ∈ TBg ∧ yX4_init.name = "<init>" := ⟨tb_mem 215 (by decide +kernel) rfl, rfl⟩
theorem tg_J7_fill_53178 : JTg yJ7_fill_53178 cJ7_fill_53178 4 none 2 := ⟨tb_mem 250 (by decide +kernel) rfl, tb_mem 83 (by decide +kernel) rfl, by decide +kernel, by decide⟩
theorem st_J7_fill_53178 : Cond.static yJ7_fill_53178 ∈ TBg := tb_mem 249 (by decide +kernel) rfl
theorem tg_X8_feed : JTg yX8_feed cX8_feed 6 (some FieldType.int) 5 := ⟨tb_mem 288 (by decide +kernel) rfl, tb_mem 76 (by decide +kernel) rfl, by decide +kernel, by decide⟩
theorem vi_X8_feed : Cond.instanceMethod yX8_feed ∈ TBg ∧ Cond.selects yX8_feed.cls yX8_feed yX8_feed ∈ TBg := ⟨tb_mem 286 (by decide +kernel) rfl, tb_mem 287 (by decide +kernel) rfl⟩
theorem tg_X6_size : JTg yX6_size cX6_size 1 (some FieldType.int) 0 := ⟨tb_mem 292 (by decide +kernel) rfl, tb_mem 77 (by decide +kernel) rfl, by decide +kernel, by decide⟩
theorem vi_X6_size : Cond.instanceMethod yX6_size ∈ TBg ∧ Cond.selects yX6_size.cls yX6_size yX6_size ∈ TBg := ⟨tb_mem 290 (by decide +kernel) rfl, tb_mem 291 (by decide +kernel) rfl⟩
theorem tg_X6_addFour : JTg yX6_addFour cX6_addFour 2 none 1 := ⟨tb_mem 296 (by decide +kernel) rfl, tb_mem 77 (by decide +kernel) rfl, by decide +kernel, by decide⟩
theorem vi_X6_addFour : Cond.instanceMethod yX6_addFour ∈ TBg ∧ Cond.selects yX6_addFour.cls yX6_addFour yX6_addFour ∈ TBg := ⟨tb_mem 294 (by decide +kernel) rfl, tb_mem 295 (by decide +kernel) rfl⟩
theorem tg_X6_add : JTg yX6_add cX6_add 2 none 1 := ⟨tb_mem 300 (by decide +kernel) rfl, tb_mem 77 (by decide +kernel) rfl, by decide +kernel, by decide⟩
theorem vi_X6_add : Cond.instanceMethod yX6_add ∈ TBg ∧ Cond.selects yX6_add.cls yX6_add yX6_add ∈ TBg := ⟨tb_mem 298 (by decide +kernel) rfl, tb_mem 299 (by decide +kernel) rfl⟩
theorem tg_X8_end : JTg yX8_end cX8_end 2 (some FieldType.int) 1 := ⟨tb_mem 304 (by decide +kernel) rfl, tb_mem 76 (by decide +kernel) rfl, by decide +kernel, by decide⟩
theorem vi_X8_end : Cond.instanceMethod yX8_end ∈ TBg ∧ Cond.selects yX8_end.cls yX8_end yX8_end ∈ TBg := ⟨tb_mem 302 (by decide +kernel) rfl, tb_mem 303 (by decide +kernel) rfl⟩
theorem tg_X6_cutTo : JTg yX6_cutTo cX6_cutTo 2 (some FieldType.boolean) 1 := ⟨tb_mem 308 (by decide +kernel) rfl, tb_mem 77 (by decide +kernel) rfl, by decide +kernel, by decide⟩
theorem vi_X6_cutTo : Cond.instanceMethod yX6_cutTo ∈ TBg ∧ Cond.selects yX6_cutTo.cls yX6_cutTo yX6_cutTo ∈ TBg := ⟨tb_mem 306 (by decide +kernel) rfl, tb_mem 307 (by decide +kernel) rfl⟩
theorem tg_X8_file : JTg yX8_file cX8_file 3 (some FieldType.int) 1 := ⟨tb_mem 312 (by decide +kernel) rfl, tb_mem 76 (by decide +kernel) rfl, by decide +kernel, by decide⟩
theorem vi_X8_file : Cond.instanceMethod yX8_file ∈ TBg ∧ Cond.selects yX8_file.cls yX8_file yX8_file ∈ TBg := ⟨tb_mem 310 (by decide +kernel) rfl, tb_mem 311 (by decide +kernel) rfl⟩
theorem tg_X8_isWithin : JTg yX8_isWithin cX8_isWithin 3 (some FieldType.boolean) 3 := ⟨tb_mem 315 (by decide +kernel) rfl, tb_mem 76 (by decide +kernel) rfl, by decide +kernel, by decide⟩
theorem st_X8_isWithin : Cond.static yX8_isWithin ∈ TBg := tb_mem 314 (by decide +kernel) rfl
theorem tg_X2_readInto : JTg yX2_readInto cX2_readInto 4 (some FieldType.int) 2 := ⟨tb_mem 319 (by decide +kernel) rfl, tb_mem 79 (by decide +kernel) rfl, by decide +kernel, by decide⟩
theorem vi_X2_readInto : Cond.instanceMethod yX2_readInto ∈ TBg ∧ Cond.selects yX2_readInto.cls yX2_readInto yX2_readInto ∈ TBg := ⟨tb_mem 317 (by decide +kernel) rfl, tb_mem 318 (by decide +kernel) rfl⟩
theorem tg_J9_min_7cf53 : JTg yJ9_min_7cf53 cJ9_min_7cf53 2 (some FieldType.int) 2 := ⟨tb_mem 322 (by decide +kernel) rfl, tb_mem 85 (by decide +kernel) rfl, by decide +kernel, by decide⟩
theorem st_J9_min_7cf53 : Cond.static yJ9_min_7cf53 ∈ TBg := tb_mem 321 (by decide +kernel) rfl
theorem tg_X1_start : JTg yX1_start cX1_start 1 none 0 := ⟨tb_mem 329 (by decide +kernel) rfl, tb_mem 78 (by decide +kernel) rfl, by decide +kernel, by decide⟩
theorem vi_X1_start : Cond.instanceMethod yX1_start ∈ TBg ∧ Cond.selects yX1_start.cls yX1_start yX1_start ∈ TBg := ⟨tb_mem 327 (by decide +kernel) rfl, tb_mem 328 (by decide +kernel) rfl⟩
theorem tg_X2_takePlain : JTg yX2_takePlain cX2_takePlain 2 none 0 := ⟨tb_mem 333 (by decide +kernel) rfl, tb_mem 79 (by decide +kernel) rfl, by decide +kernel, by decide⟩
theorem vi_X2_takePlain : Cond.instanceMethod yX2_takePlain ∈ TBg ∧ Cond.selects yX2_takePlain.cls yX2_takePlain yX2_takePlain ∈ TBg := ⟨tb_mem 332 (by decide +kernel) rfl, tb_mem 0 (by decide +kernel) rfl⟩
theorem tg_X1_mark : JTg yX1_mark cX1_mark 3 none 2 := ⟨tb_mem 338 (by decide +kernel) rfl, tb_mem 78 (by decide +kernel) rfl, by decide +kernel, by decide⟩
theorem vi_X1_mark : Cond.instanceMethod yX1_mark ∈ TBg ∧ Cond.selects yX1_mark.cls yX1_mark yX1_mark ∈ TBg := ⟨tb_mem 336 (by decide +kernel) rfl, tb_mem 337 (by decide +kernel) rfl⟩
theorem tg_X6_at : JTg yX6_at cX6_at 2 (some FieldType.int) 1 := ⟨tb_mem 342 (by decide +kernel) rfl, tb_mem 77 (by decide +kernel) rfl, by decide +kernel, by decide⟩
theorem vi_X6_at : Cond.instanceMethod yX6_at ∈ TBg ∧ Cond.selects yX6_at.cls yX6_at yX6_at ∈ TBg := ⟨tb_mem 340 (by decide +kernel) rfl, tb_mem 341 (by decide +kernel) rfl⟩
theorem tg_X2_stage : JTg yX2_stage cX2_stage 3 none 2 := ⟨tb_mem 346 (by decide +kernel) rfl, tb_mem 79 (by decide +kernel) rfl, by decide +kernel, by decide⟩
theorem vi_X2_stage : Cond.instanceMethod yX2_stage ∈ TBg ∧ Cond.selects yX2_stage.cls yX2_stage yX2_stage ∈ TBg := ⟨tb_mem 345 (by decide +kernel) rfl, tb_mem 1 (by decide +kernel) rfl⟩
theorem tg_X2_takeLines : JTg yX2_takeLines cX2_takeLines 5 none 1 := ⟨tb_mem 350 (by decide +kernel) rfl, tb_mem 79 (by decide +kernel) rfl, by decide +kernel, by decide⟩
theorem vi_X2_takeLines : Cond.instanceMethod yX2_takeLines ∈ TBg ∧ Cond.selects yX2_takeLines.cls yX2_takeLines yX2_takeLines ∈ TBg := ⟨tb_mem 349 (by decide +kernel) rfl, tb_mem 2 (by decide +kernel) rfl⟩
theorem tg_X1_isFault : JTg yX1_isFault cX1_isFault 1 (some FieldType.boolean) 0 := ⟨tb_mem 354 (by decide +kernel) rfl, tb_mem 78 (by decide +kernel) rfl, by decide +kernel, by decide⟩
theorem vi_X1_isFault : Cond.instanceMethod yX1_isFault ∈ TBg ∧ Cond.selects yX1_isFault.cls yX1_isFault yX1_isFault ∈ TBg := ⟨tb_mem 352 (by decide +kernel) rfl, tb_mem 353 (by decide +kernel) rfl⟩
theorem tg_X2_stopOf : JTg yX2_stopOf cX2_stopOf 4 (some FieldType.int) 2 := ⟨tb_mem 358 (by decide +kernel) rfl, tb_mem 79 (by decide +kernel) rfl, by decide +kernel, by decide⟩
theorem vi_X2_stopOf : Cond.instanceMethod yX2_stopOf ∈ TBg ∧ Cond.selects yX2_stopOf.cls yX2_stopOf yX2_stopOf ∈ TBg := ⟨tb_mem 357 (by decide +kernel) rfl, tb_mem 3 (by decide +kernel) rfl⟩
theorem tg_X2_takeLine : JTg yX2_takeLine cX2_takeLine 5 none 3 := ⟨tb_mem 362 (by decide +kernel) rfl, tb_mem 79 (by decide +kernel) rfl, by decide +kernel, by decide⟩
theorem vi_X2_takeLine : Cond.instanceMethod yX2_takeLine ∈ TBg ∧ Cond.selects yX2_takeLine.cls yX2_takeLine yX2_takeLine ∈ TBg := ⟨tb_mem 361 (by decide +kernel) rfl, tb_mem 4 (by decide +kernel) rfl⟩
theorem tg_X2_isColonLine : JTg yX2_isColonLine cX2_isColonLine 5 (some FieldType.boolean) 2 := ⟨tb_mem 366 (by decide +kernel) rfl, tb_mem 79 (by decide +kernel) rfl, by decide +kernel, by decide⟩
theorem vi_X2_isColonLine : Cond.instanceMethod yX2_isColonLine ∈ TBg ∧ Cond.selects yX2_isColonLine.cls yX2_isColonLine yX2_isColonLine ∈ TBg := ⟨tb_mem 365 (by decide +kernel) rfl, tb_mem 5 (by decide +kernel) rfl⟩
theorem tg_X2_areDigits : JTg yX2_areDigits cX2_areDigits 4 (some FieldType.boolean) 2 := ⟨tb_mem 370 (by decide +kernel) rfl, tb_mem 79 (by decide +kernel) rfl, by decide +kernel, by decide⟩
theorem vi_X2_areDigits : Cond.instanceMethod yX2_areDigits ∈ TBg ∧ Cond.selects yX2_areDigits.cls yX2_areDigits yX2_areDigits ∈ TBg := ⟨tb_mem 369 (by decide +kernel) rfl, tb_mem 6 (by decide +kernel) rfl⟩
theorem tg_X6_digitAt : JTg yX6_digitAt cX6_digitAt 3 (some FieldType.int) 1 := ⟨tb_mem 374 (by decide +kernel) rfl, tb_mem 77 (by decide +kernel) rfl, by decide +kernel, by decide⟩
theorem vi_X6_digitAt : Cond.instanceMethod yX6_digitAt ∈ TBg ∧ Cond.selects yX6_digitAt.cls yX6_digitAt yX6_digitAt ∈ TBg := ⟨tb_mem 372 (by decide +kernel) rfl, tb_mem 373 (by decide +kernel) rfl⟩
theorem tg_X6_pairAt : JTg yX6_pairAt cX6_pairAt 2 (some FieldType.int) 1 := ⟨tb_mem 379 (by decide +kernel) rfl, tb_mem 77 (by decide +kernel) rfl, by decide +kernel, by decide⟩
theorem vi_X6_pairAt : Cond.instanceMethod yX6_pairAt ∈ TBg ∧ Cond.selects yX6_pairAt.cls yX6_pairAt yX6_pairAt ∈ TBg := ⟨tb_mem 377 (by decide +kernel) rfl, tb_mem 378 (by decide +kernel) rfl⟩
theorem tg_X2_isSLine : JTg yX2_isSLine cX2_isSLine 5 (some FieldType.boolean) 2 := ⟨tb_mem 384 (by decide +kernel) rfl, tb_mem 79 (by decide +kernel) rfl, by decide +kernel, by decide⟩
theorem vi_X2_isSLine : Cond.instanceMethod yX2_isSLine ∈ TBg ∧ Cond.selects yX2_isSLine.cls yX2_isSLine yX2_isSLine ∈ TBg := ⟨tb_mem 383 (by decide +kernel) rfl, tb_mem 7 (by decide +kernel) rfl⟩
theorem tg_X2_sumOf : JTg yX2_sumOf cX2_sumOf 5 (some FieldType.int) 2 := ⟨tb_mem 388 (by decide +kernel) rfl, tb_mem 79 (by decide +kernel) rfl, by decide +kernel, by decide⟩
theorem vi_X2_sumOf : Cond.instanceMethod yX2_sumOf ∈ TBg ∧ Cond.selects yX2_sumOf.cls yX2_sumOf yX2_sumOf ∈ TBg := ⟨tb_mem 387 (by decide +kernel) rfl, tb_mem 8 (by decide +kernel) rfl⟩
theorem tg_X2_takeData : JTg yX2_takeData cX2_takeData 3 none 1 := ⟨tb_mem 392 (by decide +kernel) rfl, tb_mem 79 (by decide +kernel) rfl, by decide +kernel, by decide⟩
theorem vi_X2_takeData : Cond.instanceMethod yX2_takeData ∈ TBg ∧ Cond.selects yX2_takeData.cls yX2_takeData yX2_takeData ∈ TBg := ⟨tb_mem 391 (by decide +kernel) rfl, tb_mem 9 (by decide +kernel) rfl⟩
theorem tg_J9_min_f86c9 : JTg yJ9_min_f86c9 cJ9_min_f86c9 4 (some FieldType.long) 2 := ⟨tb_mem 396 (by decide +kernel) rfl, tb_mem 85 (by decide +kernel) rfl, by decide +kernel, by decide⟩
theorem st_J9_min_f86c9 : Cond.static yJ9_min_f86c9 ∈ TBg := tb_mem 395 (by decide +kernel) rfl
theorem tg_X8_fault : JTg yX8_fault cX8_fault 2 (some FieldType.int) 1 := ⟨tb_mem 400 (by decide +kernel) rfl, tb_mem 76 (by decide +kernel) rfl, by decide +kernel, by decide⟩
theorem vi_X8_fault : Cond.instanceMethod yX8_fault ∈ TBg ∧ Cond.selects yX8_fault.cls yX8_fault yX8_fault ∈ TBg := ⟨tb_mem 398 (by decide +kernel) rfl, tb_mem 399 (by decide +kernel) rfl⟩
theorem tg_X8_write : JTg yX8_write cX8_write 4 (some FieldType.int) 3 := ⟨tb_mem 404 (by decide +kernel) rfl, tb_mem 76 (by decide +kernel) rfl, by decide +kernel, by decide⟩
theorem vi_X8_write : Cond.instanceMethod yX8_write ∈ TBg ∧ Cond.selects yX8_write.cls yX8_write yX8_write ∈ TBg := ⟨tb_mem 402 (by decide +kernel) rfl, tb_mem 403 (by decide +kernel) rfl⟩
theorem tg_X3_lengthOf : JTg yX3_lengthOf cX3_lengthOf 5 (some FieldType.int) 2 := ⟨tb_mem 408 (by decide +kernel) rfl, tb_mem 80 (by decide +kernel) rfl, by decide +kernel, by decide⟩
theorem vi_X3_lengthOf : Cond.instanceMethod yX3_lengthOf ∈ TBg ∧ Cond.selects yX3_lengthOf.cls yX3_lengthOf yX3_lengthOf ∈ TBg := ⟨tb_mem 406 (by decide +kernel) rfl, tb_mem 407 (by decide +kernel) rfl⟩
theorem tg_X3_writeOut : JTg yX3_writeOut cX3_writeOut 8 none 4 := ⟨tb_mem 412 (by decide +kernel) rfl, tb_mem 80 (by decide +kernel) rfl, by decide +kernel, by decide⟩
theorem vi_X3_writeOut : Cond.instanceMethod yX3_writeOut ∈ TBg ∧ Cond.selects yX3_writeOut.cls yX3_writeOut yX3_writeOut ∈ TBg := ⟨tb_mem 410 (by decide +kernel) rfl, tb_mem 411 (by decide +kernel) rfl⟩
theorem tg_X3_startLine : JTg yX3_startLine cX3_startLine 5 none 4 := ⟨tb_mem 418 (by decide +kernel) rfl, tb_mem 80 (by decide +kernel) rfl, by decide +kernel, by decide⟩
theorem vi_X3_startLine : Cond.instanceMethod yX3_startLine ∈ TBg ∧ Cond.selects yX3_startLine.cls yX3_startLine yX3_startLine ∈ TBg := ⟨tb_mem 417 (by decide +kernel) rfl, tb_mem 10 (by decide +kernel) rfl⟩
theorem tg_X3_addByte : JTg yX3_addByte cX3_addByte 2 none 1 := ⟨tb_mem 423 (by decide +kernel) rfl, tb_mem 80 (by decide +kernel) rfl, by decide +kernel, by decide⟩
theorem vi_X3_addByte : Cond.instanceMethod yX3_addByte ∈ TBg ∧ Cond.selects yX3_addByte.cls yX3_addByte yX3_addByte ∈ TBg := ⟨tb_mem 422 (by decide +kernel) rfl, tb_mem 11 (by decide +kernel) rfl⟩
theorem tg_X6_addDigit : JTg yX6_addDigit cX6_addDigit 2 none 1 := ⟨tb_mem 427 (by decide +kernel) rfl, tb_mem 77 (by decide +kernel) rfl, by decide +kernel, by decide⟩
theorem vi_X6_addDigit : Cond.instanceMethod yX6_addDigit ∈ TBg ∧ Cond.selects yX6_addDigit.cls yX6_addDigit yX6_addDigit ∈ TBg := ⟨tb_mem 425 (by decide +kernel) rfl, tb_mem 426 (by decide +kernel) rfl⟩
theorem tg_X3_addAddress : JTg yX3_addAddress cX3_addAddress 2 none 1 := ⟨tb_mem 431 (by decide +kernel) rfl, tb_mem 80 (by decide +kernel) rfl, by decide +kernel, by decide⟩
theorem vi_X3_addAddress : Cond.instanceMethod yX3_addAddress ∈ TBg ∧ Cond.selects yX3_addAddress.cls yX3_addAddress yX3_addAddress ∈ TBg := ⟨tb_mem 430 (by decide +kernel) rfl, tb_mem 12 (by decide +kernel) rfl⟩
theorem tg_X3_stopLine : JTg yX3_stopLine cX3_stopLine 2 none 1 := ⟨tb_mem 435 (by decide +kernel) rfl, tb_mem 80 (by decide +kernel) rfl, by decide +kernel, by decide⟩
theorem vi_X3_stopLine : Cond.instanceMethod yX3_stopLine ∈ TBg ∧ Cond.selects yX3_stopLine.cls yX3_stopLine yX3_stopLine ∈ TBg := ⟨tb_mem 434 (by decide +kernel) rfl, tb_mem 13 (by decide +kernel) rfl⟩
theorem tg_X8_tape : JTg yX8_tape cX8_tape 2 (some FieldType.int) 1 := ⟨tb_mem 439 (by decide +kernel) rfl, tb_mem 76 (by decide +kernel) rfl, by decide +kernel, by decide⟩
theorem vi_X8_tape : Cond.instanceMethod yX8_tape ∈ TBg ∧ Cond.selects yX8_tape.cls yX8_tape yX8_tape ∈ TBg := ⟨tb_mem 437 (by decide +kernel) rfl, tb_mem 438 (by decide +kernel) rfl⟩
theorem tg_X8_image : JTg yX8_image cX8_image 2 (some FieldType.int) 1 := ⟨tb_mem 444 (by decide +kernel) rfl, tb_mem 76 (by decide +kernel) rfl, by decide +kernel, by decide⟩
theorem vi_X8_image : Cond.instanceMethod yX8_image ∈ TBg ∧ Cond.selects yX8_image.cls yX8_image yX8_image ∈ TBg := ⟨tb_mem 442 (by decide +kernel) rfl, tb_mem 443 (by decide +kernel) rfl⟩
theorem tg_X8_fill : JTg yX8_fill cX8_fill 2 (some FieldType.boolean) 1 := ⟨tb_mem 448 (by decide +kernel) rfl, tb_mem 76 (by decide +kernel) rfl, by decide +kernel, by decide⟩
theorem vi_X8_fill : Cond.instanceMethod yX8_fill ∈ TBg ∧ Cond.selects yX8_fill.cls yX8_fill yX8_fill ∈ TBg := ⟨tb_mem 446 (by decide +kernel) rfl, tb_mem 447 (by decide +kernel) rfl⟩
theorem tg_X8_chip : JTg yX8_chip cX8_chip 11 (some FieldType.int) 8 := ⟨tb_mem 452 (by decide +kernel) rfl, tb_mem 76 (by decide +kernel) rfl, by decide +kernel, by decide⟩
theorem vi_X8_chip : Cond.instanceMethod yX8_chip ∈ TBg ∧ Cond.selects yX8_chip.cls yX8_chip yX8_chip ∈ TBg := ⟨tb_mem 450 (by decide +kernel) rfl, tb_mem 451 (by decide +kernel) rfl⟩
theorem tg_X8_isSize : JTg yX8_isSize cX8_isSize 1 (some FieldType.boolean) 1 := ⟨tb_mem 455 (by decide +kernel) rfl, tb_mem 76 (by decide +kernel) rfl, by decide +kernel, by decide⟩
theorem st_X8_isSize : Cond.static yX8_isSize ∈ TBg := tb_mem 454 (by decide +kernel) rfl
theorem tg_X0_init : JTg yX0_init cX0_init 4 none 3 := ⟨tb_mem 459 (by decide +kernel) rfl, tb_mem 87 (by decide +kernel) rfl, by decide +kernel, by decide⟩
theorem ii_X0_init : Cond.instanceMethod yX0_init ∈ TBg ∧ yX0_init.name = "<init>" := ⟨tb_mem 458 (by decide +kernel) rfl, rfl⟩
theorem tg_X0_setLimits : JTg yX0_setLimits cX0_setLimits 4 none 3 := ⟨tb_mem 523 (by decide +kernel) rfl, tb_mem 87 (by decide +kernel) rfl, by decide +kernel, by decide⟩
theorem vi_X0_setLimits : Cond.instanceMethod yX0_setLimits ∈ TBg ∧ Cond.selects yX0_setLimits.cls yX0_setLimits yX0_setLimits ∈ TBg := ⟨tb_mem 521 (by decide +kernel) rfl, tb_mem 522 (by decide +kernel) rfl⟩
theorem tg_X0_setWear : JTg yX0_setWear cX0_setWear 3 none 2 := ⟨tb_mem 527 (by decide +kernel) rfl, tb_mem 87 (by decide +kernel) rfl, by decide +kernel, by decide⟩
theorem vi_X0_setWear : Cond.instanceMethod yX0_setWear ∈ TBg ∧ Cond.selects yX0_setWear.cls yX0_setWear yX0_setWear ∈ TBg := ⟨tb_mem 525 (by decide +kernel) rfl, tb_mem 526 (by decide +kernel) rfl⟩
theorem tg_X8_need : JTg yX8_need cX8_need 5 (some FieldType.boolean) 3 := ⟨tb_mem 531 (by decide +kernel) rfl, tb_mem 76 (by decide +kernel) rfl, by decide +kernel, by decide⟩
theorem vi_X8_need : Cond.instanceMethod yX8_need ∈ TBg ∧ Cond.selects yX8_need.cls yX8_need yX8_need ∈ TBg := ⟨tb_mem 529 (by decide +kernel) rfl, tb_mem 530 (by decide +kernel) rfl⟩
theorem tg_X8_chipAt : JTg yX8_chipAt cX8_chipAt 2 (some (FieldType.object "ChipBurner$Chip")) 1 := ⟨tb_mem 535 (by decide +kernel) rfl, tb_mem 76 (by decide +kernel) rfl, by decide +kernel, by decide⟩
theorem vi_X8_chipAt : Cond.instanceMethod yX8_chipAt ∈ TBg ∧ Cond.selects yX8_chipAt.cls yX8_chipAt yX8_chipAt ∈ TBg := ⟨tb_mem 534 (by decide +kernel) rfl, tb_mem 14 (by decide +kernel) rfl⟩
theorem tg_X0_setNeed : JTg yX0_setNeed cX0_setNeed 3 (some FieldType.boolean) 2 := ⟨tb_mem 539 (by decide +kernel) rfl, tb_mem 87 (by decide +kernel) rfl, by decide +kernel, by decide⟩
theorem vi_X0_setNeed : Cond.instanceMethod yX0_setNeed ∈ TBg ∧ Cond.selects yX0_setNeed.cls yX0_setNeed yX0_setNeed ∈ TBg := ⟨tb_mem 537 (by decide +kernel) rfl, tb_mem 538 (by decide +kernel) rfl⟩
theorem tg_X0_isAddress : JTg yX0_isAddress cX0_isAddress 2 (some FieldType.boolean) 1 := ⟨tb_mem 543 (by decide +kernel) rfl, tb_mem 87 (by decide +kernel) rfl, by decide +kernel, by decide⟩
theorem vi_X0_isAddress : Cond.instanceMethod yX0_isAddress ∈ TBg ∧ Cond.selects yX0_isAddress.cls yX0_isAddress yX0_isAddress ∈ TBg := ⟨tb_mem 542 (by decide +kernel) rfl, tb_mem 15 (by decide +kernel) rfl⟩
theorem tg_X8_bad : JTg yX8_bad cX8_bad 5 (some FieldType.boolean) 3 := ⟨tb_mem 547 (by decide +kernel) rfl, tb_mem 76 (by decide +kernel) rfl, by decide +kernel, by decide⟩
theorem vi_X8_bad : Cond.instanceMethod yX8_bad ∈ TBg ∧ Cond.selects yX8_bad.cls yX8_bad yX8_bad ∈ TBg := ⟨tb_mem 545 (by decide +kernel) rfl, tb_mem 546 (by decide +kernel) rfl⟩
theorem tg_X0_setBad : JTg yX0_setBad cX0_setBad 3 (some FieldType.boolean) 2 := ⟨tb_mem 551 (by decide +kernel) rfl, tb_mem 87 (by decide +kernel) rfl, by decide +kernel, by decide⟩
theorem vi_X0_setBad : Cond.instanceMethod yX0_setBad ∈ TBg ∧ Cond.selects yX0_setBad.cls yX0_setBad yX0_setBad ∈ TBg := ⟨tb_mem 549 (by decide +kernel) rfl, tb_mem 550 (by decide +kernel) rfl⟩
theorem tg_X0_blockCount : JTg yX0_blockCount cX0_blockCount 1 (some FieldType.int) 0 := ⟨tb_mem 555 (by decide +kernel) rfl, tb_mem 87 (by decide +kernel) rfl, by decide +kernel, by decide⟩
theorem vi_X0_blockCount : Cond.instanceMethod yX0_blockCount ∈ TBg ∧ Cond.selects yX0_blockCount.cls yX0_blockCount yX0_blockCount ∈ TBg := ⟨tb_mem 554 (by decide +kernel) rfl, tb_mem 16 (by decide +kernel) rfl⟩
theorem tg_X8_contact : JTg yX8_contact cX8_contact 5 (some FieldType.boolean) 3 := ⟨tb_mem 560 (by decide +kernel) rfl, tb_mem 76 (by decide +kernel) rfl, by decide +kernel, by decide⟩
theorem vi_X8_contact : Cond.instanceMethod yX8_contact ∈ TBg ∧ Cond.selects yX8_contact.cls yX8_contact yX8_contact ∈ TBg := ⟨tb_mem 558 (by decide +kernel) rfl, tb_mem 559 (by decide +kernel) rfl⟩
theorem tg_X0_setContact : JTg yX0_setContact cX0_setContact 3 (some FieldType.boolean) 2 := ⟨tb_mem 564 (by decide +kernel) rfl, tb_mem 87 (by decide +kernel) rfl, by decide +kernel, by decide⟩
theorem vi_X0_setContact : Cond.instanceMethod yX0_setContact ∈ TBg ∧ Cond.selects yX0_setContact.cls yX0_setContact yX0_setContact ∈ TBg := ⟨tb_mem 562 (by decide +kernel) rfl, tb_mem 563 (by decide +kernel) rfl⟩
theorem tg_X8_erase : JTg yX8_erase cX8_erase 3 (some FieldType.int) 1 := ⟨tb_mem 568 (by decide +kernel) rfl, tb_mem 76 (by decide +kernel) rfl, by decide +kernel, by decide⟩
theorem vi_X8_erase : Cond.instanceMethod yX8_erase ∈ TBg ∧ Cond.selects yX8_erase.cls yX8_erase yX8_erase ∈ TBg := ⟨tb_mem 566 (by decide +kernel) rfl, tb_mem 567 (by decide +kernel) rfl⟩
theorem tg_X0_wipe : JTg yX0_wipe cX0_wipe 2 none 0 := ⟨tb_mem 572 (by decide +kernel) rfl, tb_mem 87 (by decide +kernel) rfl, by decide +kernel, by decide⟩
theorem vi_X0_wipe : Cond.instanceMethod yX0_wipe ∈ TBg ∧ Cond.selects yX0_wipe.cls yX0_wipe yX0_wipe ∈ TBg := ⟨tb_mem 570 (by decide +kernel) rfl, tb_mem 571 (by decide +kernel) rfl⟩
theorem tg_X8_chipOf : JTg yX8_chipOf cX8_chipOf 4 (some FieldType.int) 2 := ⟨tb_mem 576 (by decide +kernel) rfl, tb_mem 76 (by decide +kernel) rfl, by decide +kernel, by decide⟩
theorem vi_X8_chipOf : Cond.instanceMethod yX8_chipOf ∈ TBg ∧ Cond.selects yX8_chipOf.cls yX8_chipOf yX8_chipOf ∈ TBg := ⟨tb_mem 574 (by decide +kernel) rfl, tb_mem 575 (by decide +kernel) rfl⟩
theorem tg_X0_property : JTg yX0_property cX0_property 2 (some FieldType.int) 1 := ⟨tb_mem 580 (by decide +kernel) rfl, tb_mem 87 (by decide +kernel) rfl, by decide +kernel, by decide⟩
theorem vi_X0_property : Cond.instanceMethod yX0_property ∈ TBg ∧ Cond.selects yX0_property.cls yX0_property yX0_property ∈ TBg := ⟨tb_mem 578 (by decide +kernel) rfl, tb_mem 579 (by decide +kernel) rfl⟩
theorem tg_X0_logicalCount : JTg yX0_logicalCount cX0_logicalCount 3 (some FieldType.int) 0 := ⟨tb_mem 584 (by decide +kernel) rfl, tb_mem 87 (by decide +kernel) rfl, by decide +kernel, by decide⟩
theorem vi_X0_logicalCount : Cond.instanceMethod yX0_logicalCount ∈ TBg ∧ Cond.selects yX0_logicalCount.cls yX0_logicalCount yX0_logicalCount ∈ TBg := ⟨tb_mem 582 (by decide +kernel) rfl, tb_mem 583 (by decide +kernel) rfl⟩
theorem tg_X0_firstLackingPin : JTg yX0_firstLackingPin cX0_firstLackingPin 2 (some FieldType.int) 0 := ⟨tb_mem 588 (by decide +kernel) rfl, tb_mem 87 (by decide +kernel) rfl, by decide +kernel, by decide⟩
theorem vi_X0_firstLackingPin : Cond.instanceMethod yX0_firstLackingPin ∈ TBg ∧ Cond.selects yX0_firstLackingPin.cls yX0_firstLackingPin yX0_firstLackingPin ∈ TBg := ⟨tb_mem 586 (by decide +kernel) rfl, tb_mem 587 (by decide +kernel) rfl⟩
theorem tg_X0_cell : JTg yX0_cell cX0_cell 3 (some FieldType.int) 2 := ⟨tb_mem 592 (by decide +kernel) rfl, tb_mem 87 (by decide +kernel) rfl, by decide +kernel, by decide⟩
theorem vi_X0_cell : Cond.instanceMethod yX0_cell ∈ TBg ∧ Cond.selects yX0_cell.cls yX0_cell yX0_cell ∈ TBg := ⟨tb_mem 590 (by decide +kernel) rfl, tb_mem 591 (by decide +kernel) rfl⟩
theorem tg_X0_addressOf : JTg yX0_addressOf cX0_addressOf 4 (some FieldType.int) 1 := ⟨tb_mem 596 (by decide +kernel) rfl, tb_mem 87 (by decide +kernel) rfl, by decide +kernel, by decide⟩
theorem vi_X0_addressOf : Cond.instanceMethod yX0_addressOf ∈ TBg ∧ Cond.selects yX0_addressOf.cls yX0_addressOf yX0_addressOf ∈ TBg := ⟨tb_mem 594 (by decide +kernel) rfl, tb_mem 595 (by decide +kernel) rfl⟩
theorem tg_X8_recipe : JTg yX8_recipe cX8_recipe 4 (some FieldType.int) 1 := ⟨tb_mem 600 (by decide +kernel) rfl, tb_mem 76 (by decide +kernel) rfl, by decide +kernel, by decide⟩
theorem vi_X8_recipe : Cond.instanceMethod yX8_recipe ∈ TBg ∧ Cond.selects yX8_recipe.cls yX8_recipe yX8_recipe ∈ TBg := ⟨tb_mem 598 (by decide +kernel) rfl, tb_mem 599 (by decide +kernel) rfl⟩
theorem tg_X5_readInto : JTg yX5_readInto cX5_readInto 4 (some FieldType.boolean) 1 := ⟨tb_mem 604 (by decide +kernel) rfl, tb_mem 81 (by decide +kernel) rfl, by decide +kernel, by decide⟩
theorem vi_X5_readInto : Cond.instanceMethod yX5_readInto ∈ TBg ∧ Cond.selects yX5_readInto.cls yX5_readInto yX5_readInto ∈ TBg := ⟨tb_mem 602 (by decide +kernel) rfl, tb_mem 603 (by decide +kernel) rfl⟩
theorem tg_X4_clear : JTg yX4_clear cX4_clear 1 none 0 := ⟨tb_mem 611 (by decide +kernel) rfl, tb_mem 82 (by decide +kernel) rfl, by decide +kernel, by decide⟩
theorem vi_X4_clear : Cond.instanceMethod yX4_clear ∈ TBg ∧ Cond.selects yX4_clear.cls yX4_clear yX4_clear ∈ TBg := ⟨tb_mem 609 (by decide +kernel) rfl, tb_mem 610 (by decide +kernel) rfl⟩
theorem tg_X5_nextToken : JTg yX5_nextToken cX5_nextToken 1 none 0 := ⟨tb_mem 615 (by decide +kernel) rfl, tb_mem 81 (by decide +kernel) rfl, by decide +kernel, by decide⟩
theorem vi_X5_nextToken : Cond.instanceMethod yX5_nextToken ∈ TBg ∧ Cond.selects yX5_nextToken.cls yX5_nextToken yX5_nextToken ∈ TBg := ⟨tb_mem 614 (by decide +kernel) rfl, tb_mem 17 (by decide +kernel) rfl⟩
theorem tg_X5_behindBlanks : JTg yX5_behindBlanks cX5_behindBlanks 3 (some FieldType.int) 1 := ⟨tb_mem 619 (by decide +kernel) rfl, tb_mem 81 (by decide +kernel) rfl, by decide +kernel, by decide⟩
theorem vi_X5_behindBlanks : Cond.instanceMethod yX5_behindBlanks ∈ TBg ∧ Cond.selects yX5_behindBlanks.cls yX5_behindBlanks yX5_behindBlanks ∈ TBg := ⟨tb_mem 618 (by decide +kernel) rfl, tb_mem 18 (by decide +kernel) rfl⟩
theorem tg_X5_kindOfByte : JTg yX5_kindOfByte cX5_kindOfByte 1 (some FieldType.int) 1 := ⟨tb_mem 623 (by decide +kernel) rfl, tb_mem 81 (by decide +kernel) rfl, by decide +kernel, by decide⟩
theorem st_X5_kindOfByte : Cond.static yX5_kindOfByte ∈ TBg := tb_mem 622 (by decide +kernel) rfl
theorem tg_X5_behindSame : JTg yX5_behindSame cX5_behindSame 4 (some FieldType.int) 2 := ⟨tb_mem 628 (by decide +kernel) rfl, tb_mem 81 (by decide +kernel) rfl, by decide +kernel, by decide⟩
theorem vi_X5_behindSame : Cond.instanceMethod yX5_behindSame ∈ TBg ∧ Cond.selects yX5_behindSame.cls yX5_behindSame yX5_behindSame ∈ TBg := ⟨tb_mem 627 (by decide +kernel) rfl, tb_mem 19 (by decide +kernel) rfl⟩
theorem tg_X5_isSign : JTg yX5_isSign cX5_isSign 2 (some FieldType.boolean) 1 := ⟨tb_mem 632 (by decide +kernel) rfl, tb_mem 81 (by decide +kernel) rfl, by decide +kernel, by decide⟩
theorem vi_X5_isSign : Cond.instanceMethod yX5_isSign ∈ TBg ∧ Cond.selects yX5_isSign.cls yX5_isSign yX5_isSign ∈ TBg := ⟨tb_mem 631 (by decide +kernel) rfl, tb_mem 20 (by decide +kernel) rfl⟩
theorem tg_X5_takeClosing : JTg yX5_takeClosing cX5_takeClosing 3 (some FieldType.boolean) 1 := ⟨tb_mem 636 (by decide +kernel) rfl, tb_mem 81 (by decide +kernel) rfl, by decide +kernel, by decide⟩
theorem vi_X5_takeClosing : Cond.instanceMethod yX5_takeClosing ∈ TBg ∧ Cond.selects yX5_takeClosing.cls yX5_takeClosing yX5_takeClosing ∈ TBg := ⟨tb_mem 635 (by decide +kernel) rfl, tb_mem 21 (by decide +kernel) rfl⟩
theorem tg_X5_refuse : JTg yX5_refuse cX5_refuse 2 (some FieldType.boolean) 1 := ⟨tb_mem 641 (by decide +kernel) rfl, tb_mem 81 (by decide +kernel) rfl, by decide +kernel, by decide⟩
theorem vi_X5_refuse : Cond.instanceMethod yX5_refuse ∈ TBg ∧ Cond.selects yX5_refuse.cls yX5_refuse yX5_refuse ∈ TBg := ⟨tb_mem 640 (by decide +kernel) rfl, tb_mem 22 (by decide +kernel) rfl⟩
theorem tg_X4_close : JTg yX4_close cX4_close 2 none 1 := ⟨tb_mem 645 (by decide +kernel) rfl, tb_mem 82 (by decide +kernel) rfl, by decide +kernel, by decide⟩
theorem vi_X4_close : Cond.instanceMethod yX4_close ∈ TBg ∧ Cond.selects yX4_close.cls yX4_close yX4_close ∈ TBg := ⟨tb_mem 643 (by decide +kernel) rfl, tb_mem 644 (by decide +kernel) rfl⟩
theorem tg_X4_isStep : JTg yX4_isStep cX4_isStep 2 (some FieldType.boolean) 1 := ⟨tb_mem 649 (by decide +kernel) rfl, tb_mem 82 (by decide +kernel) rfl, by decide +kernel, by decide⟩
theorem vi_X4_isStep : Cond.instanceMethod yX4_isStep ∈ TBg ∧ Cond.selects yX4_isStep.cls yX4_isStep yX4_isStep ∈ TBg := ⟨tb_mem 648 (by decide +kernel) rfl, tb_mem 23 (by decide +kernel) rfl⟩
theorem tg_X5_isWord : JTg yX5_isWord cX5_isWord 3 (some FieldType.boolean) 1 := ⟨tb_mem 654 (by decide +kernel) rfl, tb_mem 81 (by decide +kernel) rfl, by decide +kernel, by decide⟩
theorem vi_X5_isWord : Cond.instanceMethod yX5_isWord ∈ TBg ∧ Cond.selects yX5_isWord.cls yX5_isWord yX5_isWord ∈ TBg := ⟨tb_mem 653 (by decide +kernel) rfl, tb_mem 24 (by decide +kernel) rfl⟩
theorem tg_J0_length_8abf5 : JTg yJ0_length_8abf5 cJ0_length_8abf5 1 (some FieldType.int) 0 := ⟨tb_mem 658 (by decide +kernel) rfl, tb_mem 88 (by decide +kernel) rfl, by decide +kernel, by decide⟩
theorem vi_J0_length_8abf5 : Cond.instanceMethod yJ0_length_8abf5 ∈ TBg ∧ Cond.selects yJ0_length_8abf5.cls yJ0_length_8abf5 yJ0_length_8abf5 ∈ TBg := ⟨tb_mem 656 (by decide +kernel) rfl, tb_mem 657 (by decide +kernel) rfl⟩
theorem tg_J0_coder_7d493 : JTg yJ0_coder_7d493 cJ0_coder_7d493 1 (some FieldType.byte) 0 := ⟨tb_mem 662 (by decide +kernel) rfl, tb_mem 88 (by decide +kernel) rfl, by decide +kernel, by decide⟩
theorem vi_J0_coder_7d493 : Cond.instanceMethod yJ0_coder_7d493 ∈ TBg ∧ Cond.selects yJ0_coder_7d493.cls yJ0_coder_7d493 yJ0_coder_7d493 ∈ TBg := ⟨tb_mem 660 (by decide +kernel) rfl, tb_mem 661 (by decide +kernel) rfl⟩
theorem tg_J0_charAt_5068e : JTg yJ0_charAt_5068e cJ0_charAt_5068e 2 (some FieldType.char) 1 := ⟨tb_mem 668 (by decide +kernel) rfl, tb_mem 88 (by decide +kernel) rfl, by decide +kernel, by decide⟩
theorem vi_J0_charAt_5068e : Cond.instanceMethod yJ0_charAt_5068e ∈ TBg ∧ Cond.selects yJ0_charAt_5068e.cls yJ0_charAt_5068e yJ0_charAt_5068e ∈ TBg := ⟨tb_mem 666 (by decide +kernel) rfl, tb_mem 667 (by decide +kernel) rfl⟩
theorem tg_J0_isLatin1_aae02 : JTg yJ0_isLatin1_aae02 cJ0_isLatin1_aae02 1 (some FieldType.boolean) 0 := ⟨tb_mem 672 (by decide +kernel) rfl, tb_mem 88 (by decide +kernel) rfl, by decide +kernel, by decide⟩
theorem vi_J0_isLatin1_aae02 : Cond.instanceMethod yJ0_isLatin1_aae02 ∈ TBg ∧ Cond.selects yJ0_isLatin1_aae02.cls yJ0_isLatin1_aae02 yJ0_isLatin1_aae02 ∈ TBg := ⟨tb_mem 670 (by decide +kernel) rfl, tb_mem 671 (by decide +kernel) rfl⟩
theorem tg_J1_charAt_3b067 : JTg yJ1_charAt_3b067 cJ1_charAt_3b067 2 (some FieldType.char) 2 := ⟨tb_mem 675 (by decide +kernel) rfl, tb_mem 89 (by decide +kernel) rfl, by decide +kernel, by decide⟩
theorem st_J1_charAt_3b067 : Cond.static yJ1_charAt_3b067 ∈ TBg := tb_mem 674 (by decide +kernel) rfl
theorem tg_J0_checkIndex_df160 : JTg yJ0_checkIndex_df160 cJ0_checkIndex_df160 2 none 2 := ⟨tb_mem 678 (by decide +kernel) rfl, tb_mem 88 (by decide +kernel) rfl, by decide +kernel, by decide⟩
theorem st_J0_checkIndex_df160 : Cond.static yJ0_checkIndex_df160 ∈ TBg := tb_mem 677 (by decide +kernel) rfl
theorem tg_J3_checkIndex_8e157 : JTg yJ3_checkIndex_8e157 cJ3_checkIndex_8e157 3 (some FieldType.int) 3 := ⟨tb_mem 683 (by decide +kernel) rfl, tb_mem 90 (by decide +kernel) rfl, by decide +kernel, by decide⟩
theorem st_J3_checkIndex_8e157 : Cond.static yJ3_checkIndex_8e157 ∈ TBg := tb_mem 682 (by decide +kernel) rfl
theorem tg_J2_charAt_3b067 : JTg yJ2_charAt_3b067 cJ2_charAt_3b067 2 (some FieldType.char) 2 := ⟨tb_mem 686 (by decide +kernel) rfl, tb_mem 91 (by decide +kernel) rfl, by decide +kernel, by decide⟩
theorem st_J2_charAt_3b067 : Cond.static yJ2_charAt_3b067 ∈ TBg := tb_mem 685 (by decide +kernel) rfl
theorem tg_J2_checkIndex_2214a : JTg yJ2_checkIndex_2214a cJ2_checkIndex_2214a 2 none 2 := ⟨tb_mem 689 (by decide +kernel) rfl, tb_mem 91 (by decide +kernel) rfl, by decide +kernel, by decide⟩
theorem st_J2_checkIndex_2214a : Cond.static yJ2_checkIndex_2214a ∈ TBg := tb_mem 688 (by decide +kernel) rfl
theorem tg_J2_length_9d52b : JTg yJ2_length_9d52b cJ2_length_9d52b 1 (some FieldType.int) 1 := ⟨tb_mem 692 (by decide +kernel) rfl, tb_mem 91 (by decide +kernel) rfl, by decide +kernel, by decide⟩
theorem st_J2_length_9d52b : Cond.static yJ2_length_9d52b ∈ TBg := tb_mem 691 (by decide +kernel) rfl
theorem tg_J2_getChar_3b067 : JTg yJ2_getChar_3b067 cJ2_getChar_3b067 2 (some FieldType.char) 2 := ⟨tb_mem 696 (by decide +kernel) rfl, tb_mem 91 (by decide +kernel) rfl, by decide +kernel, by decide⟩
theorem st_J2_getChar_3b067 : Cond.static yJ2_getChar_3b067 ∈ TBg := tb_mem 695 (by decide +kernel) rfl
theorem tg_X4_startOtherwise : JTg yX4_startOtherwise cX4_startOtherwise 2 none 1 := ⟨tb_mem 706 (by decide +kernel) rfl, tb_mem 82 (by decide +kernel) rfl, by decide +kernel, by decide⟩
theorem vi_X4_startOtherwise : Cond.instanceMethod yX4_startOtherwise ∈ TBg ∧ Cond.selects yX4_startOtherwise.cls yX4_startOtherwise yX4_startOtherwise ∈ TBg := ⟨tb_mem 704 (by decide +kernel) rfl, tb_mem 705 (by decide +kernel) rfl⟩
theorem tg_X5_takeSign : JTg yX5_takeSign cX5_takeSign 2 (some FieldType.boolean) 1 := ⟨tb_mem 710 (by decide +kernel) rfl, tb_mem 81 (by decide +kernel) rfl, by decide +kernel, by decide⟩
theorem vi_X5_takeSign : Cond.instanceMethod yX5_takeSign ∈ TBg ∧ Cond.selects yX5_takeSign.cls yX5_takeSign yX5_takeSign ∈ TBg := ⟨tb_mem 709 (by decide +kernel) rfl, tb_mem 25 (by decide +kernel) rfl⟩
theorem tg_X5_takeStep : JTg yX5_takeStep cX5_takeStep 5 (some FieldType.boolean) 1 := ⟨tb_mem 714 (by decide +kernel) rfl, tb_mem 81 (by decide +kernel) rfl, by decide +kernel, by decide⟩
theorem vi_X5_takeStep : Cond.instanceMethod yX5_takeStep ∈ TBg ∧ Cond.selects yX5_takeStep.cls yX5_takeStep yX5_takeStep ∈ TBg := ⟨tb_mem 713 (by decide +kernel) rfl, tb_mem 26 (by decide +kernel) rfl⟩
theorem tg_X5_stepKind : JTg yX5_stepKind cX5_stepKind 1 (some FieldType.int) 0 := ⟨tb_mem 718 (by decide +kernel) rfl, tb_mem 81 (by decide +kernel) rfl, by decide +kernel, by decide⟩
theorem vi_X5_stepKind : Cond.instanceMethod yX5_stepKind ∈ TBg ∧ Cond.selects yX5_stepKind.cls yX5_stepKind yX5_stepKind ∈ TBg := ⟨tb_mem 717 (by decide +kernel) rfl, tb_mem 27 (by decide +kernel) rfl⟩
theorem tg_X4_isFull : JTg yX4_isFull cX4_isFull 1 (some FieldType.boolean) 0 := ⟨tb_mem 727 (by decide +kernel) rfl, tb_mem 82 (by decide +kernel) rfl, by decide +kernel, by decide⟩
theorem vi_X4_isFull : Cond.instanceMethod yX4_isFull ∈ TBg ∧ Cond.selects yX4_isFull.cls yX4_isFull yX4_isFull ∈ TBg := ⟨tb_mem 725 (by decide +kernel) rfl, tb_mem 726 (by decide +kernel) rfl⟩
theorem tg_X4_addStep : JTg yX4_addStep cX4_addStep 2 (some FieldType.int) 1 := ⟨tb_mem 731 (by decide +kernel) rfl, tb_mem 82 (by decide +kernel) rfl, by decide +kernel, by decide⟩
theorem vi_X4_addStep : Cond.instanceMethod yX4_addStep ∈ TBg ∧ Cond.selects yX4_addStep.cls yX4_addStep yX4_addStep ∈ TBg := ⟨tb_mem 729 (by decide +kernel) rfl, tb_mem 730 (by decide +kernel) rfl⟩
theorem tg_X5_takeNumber : JTg yX5_takeNumber cX5_takeNumber 6 (some FieldType.boolean) 4 := ⟨tb_mem 736 (by decide +kernel) rfl, tb_mem 81 (by decide +kernel) rfl, by decide +kernel, by decide⟩
theorem vi_X5_takeNumber : Cond.instanceMethod yX5_takeNumber ∈ TBg ∧ Cond.selects yX5_takeNumber.cls yX5_takeNumber yX5_takeNumber ∈ TBg := ⟨tb_mem 735 (by decide +kernel) rfl, tb_mem 28 (by decide +kernel) rfl⟩
theorem tg_X5_tokenNumber : JTg yX5_tokenNumber cX5_tokenNumber 3 (some FieldType.int) 0 := ⟨tb_mem 740 (by decide +kernel) rfl, tb_mem 81 (by decide +kernel) rfl, by decide +kernel, by decide⟩
theorem vi_X5_tokenNumber : Cond.instanceMethod yX5_tokenNumber ∈ TBg ∧ Cond.selects yX5_tokenNumber.cls yX5_tokenNumber yX5_tokenNumber ∈ TBg := ⟨tb_mem 739 (by decide +kernel) rfl, tb_mem 29 (by decide +kernel) rfl⟩
theorem tg_X4_setNumber : JTg yX4_setNumber cX4_setNumber 3 none 2 := ⟨tb_mem 744 (by decide +kernel) rfl, tb_mem 82 (by decide +kernel) rfl, by decide +kernel, by decide⟩
theorem vi_X4_setNumber : Cond.instanceMethod yX4_setNumber ∈ TBg ∧ Cond.selects yX4_setNumber.cls yX4_setNumber yX4_setNumber ∈ TBg := ⟨tb_mem 742 (by decide +kernel) rfl, tb_mem 743 (by decide +kernel) rfl⟩
theorem tg_X5_takeOpening : JTg yX5_takeOpening cX5_takeOpening 3 (some FieldType.boolean) 2 := ⟨tb_mem 748 (by decide +kernel) rfl, tb_mem 81 (by decide +kernel) rfl, by decide +kernel, by decide⟩
theorem vi_X5_takeOpening : Cond.instanceMethod yX5_takeOpening ∈ TBg ∧ Cond.selects yX5_takeOpening.cls yX5_takeOpening yX5_takeOpening ∈ TBg := ⟨tb_mem 747 (by decide +kernel) rfl, tb_mem 30 (by decide +kernel) rfl⟩
theorem tg_X4_measure : JTg yX4_measure cX4_measure 1 none 0 := ⟨tb_mem 752 (by decide +kernel) rfl, tb_mem 82 (by decide +kernel) rfl, by decide +kernel, by decide⟩
theorem vi_X4_measure : Cond.instanceMethod yX4_measure ∈ TBg ∧ Cond.selects yX4_measure.cls yX4_measure yX4_measure ∈ TBg := ⟨tb_mem 750 (by decide +kernel) rfl, tb_mem 751 (by decide +kernel) rfl⟩
theorem tg_X4_volts : JTg yX4_volts cX4_volts 9 (some FieldType.int) 4 := ⟨tb_mem 756 (by decide +kernel) rfl, tb_mem 82 (by decide +kernel) rfl, by decide +kernel, by decide⟩
theorem vi_X4_volts : Cond.instanceMethod yX4_volts ∈ TBg ∧ Cond.selects yX4_volts.cls yX4_volts yX4_volts ∈ TBg := ⟨tb_mem 755 (by decide +kernel) rfl, tb_mem 31 (by decide +kernel) rfl⟩
theorem tg_X4_kindOf : JTg yX4_kindOf cX4_kindOf 2 (some FieldType.int) 1 := ⟨tb_mem 760 (by decide +kernel) rfl, tb_mem 82 (by decide +kernel) rfl, by decide +kernel, by decide⟩
theorem vi_X4_kindOf : Cond.instanceMethod yX4_kindOf ∈ TBg ∧ Cond.selects yX4_kindOf.cls yX4_kindOf yX4_kindOf ∈ TBg := ⟨tb_mem 758 (by decide +kernel) rfl, tb_mem 759 (by decide +kernel) rfl⟩
theorem tg_X4_numberOf : JTg yX4_numberOf cX4_numberOf 2 (some FieldType.int) 1 := ⟨tb_mem 764 (by decide +kernel) rfl, tb_mem 82 (by decide +kernel) rfl, by decide +kernel, by decide⟩
theorem vi_X4_numberOf : Cond.instanceMethod yX4_numberOf ∈ TBg ∧ Cond.selects yX4_numberOf.cls yX4_numberOf yX4_numberOf ∈ TBg := ⟨tb_mem 762 (by decide +kernel) rfl, tb_mem 763 (by decide +kernel) rfl⟩
theorem tg_J9_max_7cf53 : JTg yJ9_max_7cf53 cJ9_max_7cf53 2 (some FieldType.int) 2 := ⟨tb_mem 767 (by decide +kernel) rfl, tb_mem 85 (by decide +kernel) rfl, by decide +kernel, by decide⟩
theorem st_J9_max_7cf53 : Cond.static yJ9_max_7cf53 ∈ TBg := tb_mem 766 (by decide +kernel) rfl
theorem tg_X4_otherwiseOf : JTg yX4_otherwiseOf cX4_otherwiseOf 2 (some FieldType.int) 1 := ⟨tb_mem 771 (by decide +kernel) rfl, tb_mem 82 (by decide +kernel) rfl, by decide +kernel, by decide⟩
theorem vi_X4_otherwiseOf : Cond.instanceMethod yX4_otherwiseOf ∈ TBg ∧ Cond.selects yX4_otherwiseOf.cls yX4_otherwiseOf yX4_otherwiseOf ∈ TBg := ⟨tb_mem 769 (by decide +kernel) rfl, tb_mem 770 (by decide +kernel) rfl⟩
theorem tg_X4_behindOf : JTg yX4_behindOf cX4_behindOf 2 (some FieldType.int) 1 := ⟨tb_mem 775 (by decide +kernel) rfl, tb_mem 82 (by decide +kernel) rfl, by decide +kernel, by decide⟩
theorem vi_X4_behindOf : Cond.instanceMethod yX4_behindOf ∈ TBg ∧ Cond.selects yX4_behindOf.cls yX4_behindOf yX4_behindOf ∈ TBg := ⟨tb_mem 773 (by decide +kernel) rfl, tb_mem 774 (by decide +kernel) rfl⟩
theorem tg_X4_voltsOfTry : JTg yX4_voltsOfTry cX4_voltsOfTry 7 (some FieldType.int) 3 := ⟨tb_mem 779 (by decide +kernel) rfl, tb_mem 82 (by decide +kernel) rfl, by decide +kernel, by decide⟩
theorem vi_X4_voltsOfTry : Cond.instanceMethod yX4_voltsOfTry ∈ TBg ∧ Cond.selects yX4_voltsOfTry.cls yX4_voltsOfTry yX4_voltsOfTry ∈ TBg := ⟨tb_mem 778 (by decide +kernel) rfl, tb_mem 32 (by decide +kernel) rfl⟩
theorem tg_X4_most : JTg yX4_most cX4_most 11 (some FieldType.long) 4 := ⟨tb_mem 784 (by decide +kernel) rfl, tb_mem 82 (by decide +kernel) rfl, by decide +kernel, by decide⟩
theorem vi_X4_most : Cond.instanceMethod yX4_most ∈ TBg ∧ Cond.selects yX4_most.cls yX4_most yX4_most ∈ TBg := ⟨tb_mem 783 (by decide +kernel) rfl, tb_mem 33 (by decide +kernel) rfl⟩
theorem tg_J9_max_f86c9 : JTg yJ9_max_f86c9 cJ9_max_f86c9 4 (some FieldType.long) 2 := ⟨tb_mem 787 (by decide +kernel) rfl, tb_mem 85 (by decide +kernel) rfl, by decide +kernel, by decide⟩
theorem st_J9_max_f86c9 : Cond.static yJ9_max_f86c9 ∈ TBg := tb_mem 786 (by decide +kernel) rfl
theorem tg_X8_walk : JTg yX8_walk cX8_walk 4 (some FieldType.int) 2 := ⟨tb_mem 793 (by decide +kernel) rfl, tb_mem 76 (by decide +kernel) rfl, by decide +kernel, by decide⟩
theorem vi_X8_walk : Cond.instanceMethod yX8_walk ∈ TBg ∧ Cond.selects yX8_walk.cls yX8_walk yX8_walk ∈ TBg := ⟨tb_mem 791 (by decide +kernel) rfl, tb_mem 792 (by decide +kernel) rfl⟩
theorem tg_X8_recipeAt : JTg yX8_recipeAt cX8_recipeAt 2 (some (FieldType.object "ChipBurner$Recipe")) 1 := ⟨tb_mem 797 (by decide +kernel) rfl, tb_mem 76 (by decide +kernel) rfl, by decide +kernel, by decide⟩
theorem vi_X8_recipeAt : Cond.instanceMethod yX8_recipeAt ∈ TBg ∧ Cond.selects yX8_recipeAt.cls yX8_recipeAt yX8_recipeAt ∈ TBg := ⟨tb_mem 796 (by decide +kernel) rfl, tb_mem 34 (by decide +kernel) rfl⟩
theorem tg_X8_why : JTg yX8_why cX8_why 8 (some FieldType.int) 5 := ⟨tb_mem 801 (by decide +kernel) rfl, tb_mem 76 (by decide +kernel) rfl, by decide +kernel, by decide⟩
theorem vi_X8_why : Cond.instanceMethod yX8_why ∈ TBg ∧ Cond.selects yX8_why.cls yX8_why yX8_why ∈ TBg := ⟨tb_mem 799 (by decide +kernel) rfl, tb_mem 800 (by decide +kernel) rfl⟩
theorem tg_X8_isPart : JTg yX8_isPart cX8_isPart 2 (some FieldType.boolean) 2 := ⟨tb_mem 804 (by decide +kernel) rfl, tb_mem 76 (by decide +kernel) rfl, by decide +kernel, by decide⟩
theorem st_X8_isPart : Cond.static yX8_isPart ∈ TBg := tb_mem 803 (by decide +kernel) rfl
theorem tg_X8_hindrance : JTg yX8_hindrance cX8_hindrance 8 (some FieldType.int) 5 := ⟨tb_mem 808 (by decide +kernel) rfl, tb_mem 76 (by decide +kernel) rfl, by decide +kernel, by decide⟩
theorem vi_X8_hindrance : Cond.instanceMethod yX8_hindrance ∈ TBg ∧ Cond.selects yX8_hindrance.cls yX8_hindrance yX8_hindrance ∈ TBg := ⟨tb_mem 807 (by decide +kernel) rfl, tb_mem 35 (by decide +kernel) rfl⟩
theorem tg_X4_fits : JTg yX4_fits cX4_fits 2 (some FieldType.boolean) 1 := ⟨tb_mem 813 (by decide +kernel) rfl, tb_mem 82 (by decide +kernel) rfl, by decide +kernel, by decide⟩
theorem vi_X4_fits : Cond.instanceMethod yX4_fits ∈ TBg ∧ Cond.selects yX4_fits.cls yX4_fits yX4_fits ∈ TBg := ⟨tb_mem 811 (by decide +kernel) rfl, tb_mem 812 (by decide +kernel) rfl⟩
theorem tg_X8_reachOf : JTg yX8_reachOf cX8_reachOf 3 (some FieldType.int) 3 := ⟨tb_mem 816 (by decide +kernel) rfl, tb_mem 76 (by decide +kernel) rfl, by decide +kernel, by decide⟩
theorem st_X8_reachOf : Cond.static yX8_reachOf ∈ TBg := tb_mem 815 (by decide +kernel) rfl
theorem tg_X0_mustGoBack : JTg yX0_mustGoBack cX0_mustGoBack 3 (some FieldType.boolean) 2 := ⟨tb_mem 824 (by decide +kernel) rfl, tb_mem 87 (by decide +kernel) rfl, by decide +kernel, by decide⟩
theorem vi_X0_mustGoBack : Cond.instanceMethod yX0_mustGoBack ∈ TBg ∧ Cond.selects yX0_mustGoBack.cls yX0_mustGoBack yX0_mustGoBack ∈ TBg := ⟨tb_mem 822 (by decide +kernel) rfl, tb_mem 823 (by decide +kernel) rfl⟩
theorem tg_X8_burn : JTg yX8_burn cX8_burn 14 (some FieldType.int) 6 := ⟨tb_mem 828 (by decide +kernel) rfl, tb_mem 76 (by decide +kernel) rfl, by decide +kernel, by decide⟩
theorem vi_X8_burn : Cond.instanceMethod yX8_burn ∈ TBg ∧ Cond.selects yX8_burn.cls yX8_burn yX8_burn ∈ TBg := ⟨tb_mem 826 (by decide +kernel) rfl, tb_mem 827 (by decide +kernel) rfl⟩
theorem tg_X7_init : JTg yX7_init cX7_init 4 none 3 := ⟨tb_mem 834 (by decide +kernel) rfl, tb_mem 92 (by decide +kernel) rfl, by decide +kernel, by decide⟩
theorem ii_X7_init : Cond.instanceMethod yX7_init ∈ TBg ∧ yX7_init.name = "<init>" := ⟨tb_mem 833 (by decide +kernel) rfl, rfl⟩
theorem tg_X0_isRight : JTg yX0_isRight cX0_isRight 3 (some FieldType.boolean) 2 := ⟨tb_mem 862 (by decide +kernel) rfl, tb_mem 87 (by decide +kernel) rfl, by decide +kernel, by decide⟩
theorem vi_X0_isRight : Cond.instanceMethod yX0_isRight ∈ TBg ∧ Cond.selects yX0_isRight.cls yX0_isRight yX0_isRight ∈ TBg := ⟨tb_mem 860 (by decide +kernel) rfl, tb_mem 861 (by decide +kernel) rfl⟩
theorem tg_X7_workAt : JTg yX7_workAt cX7_workAt 3 none 2 := ⟨tb_mem 866 (by decide +kernel) rfl, tb_mem 92 (by decide +kernel) rfl, by decide +kernel, by decide⟩
theorem vi_X7_workAt : Cond.instanceMethod yX7_workAt ∈ TBg ∧ Cond.selects yX7_workAt.cls yX7_workAt yX7_workAt ∈ TBg := ⟨tb_mem 864 (by decide +kernel) rfl, tb_mem 865 (by decide +kernel) rfl⟩
theorem tg_X7_workSteps : JTg yX7_workSteps cX7_workSteps 5 none 3 := ⟨tb_mem 870 (by decide +kernel) rfl, tb_mem 92 (by decide +kernel) rfl, by decide +kernel, by decide⟩
theorem vi_X7_workSteps : Cond.instanceMethod yX7_workSteps ∈ TBg ∧ Cond.selects yX7_workSteps.cls yX7_workSteps yX7_workSteps ∈ TBg := ⟨tb_mem 869 (by decide +kernel) rfl, tb_mem 36 (by decide +kernel) rfl⟩
theorem tg_X7_workStep : JTg yX7_workStep cX7_workStep 4 none 2 := ⟨tb_mem 874 (by decide +kernel) rfl, tb_mem 92 (by decide +kernel) rfl, by decide +kernel, by decide⟩
theorem vi_X7_workStep : Cond.instanceMethod yX7_workStep ∈ TBg ∧ Cond.selects yX7_workStep.cls yX7_workStep yX7_workStep ∈ TBg := ⟨tb_mem 873 (by decide +kernel) rfl, tb_mem 37 (by decide +kernel) rfl⟩
theorem tg_X7_givePulses : JTg yX7_givePulses cX7_givePulses 3 none 1 := ⟨tb_mem 880 (by decide +kernel) rfl, tb_mem 92 (by decide +kernel) rfl, by decide +kernel, by decide⟩
theorem vi_X7_givePulses : Cond.instanceMethod yX7_givePulses ∈ TBg ∧ Cond.selects yX7_givePulses.cls yX7_givePulses yX7_givePulses ∈ TBg := ⟨tb_mem 879 (by decide +kernel) rfl, tb_mem 38 (by decide +kernel) rfl⟩
theorem tg_X0_takePulse : JTg yX0_takePulse cX0_takePulse 4 none 3 := ⟨tb_mem 884 (by decide +kernel) rfl, tb_mem 87 (by decide +kernel) rfl, by decide +kernel, by decide⟩
theorem vi_X0_takePulse : Cond.instanceMethod yX0_takePulse ∈ TBg ∧ Cond.selects yX0_takePulse.cls yX0_takePulse yX0_takePulse ∈ TBg := ⟨tb_mem 882 (by decide +kernel) rfl, tb_mem 883 (by decide +kernel) rfl⟩
theorem tg_X7_workBranch : JTg yX7_workBranch cX7_workBranch 3 none 2 := ⟨tb_mem 890 (by decide +kernel) rfl, tb_mem 92 (by decide +kernel) rfl, by decide +kernel, by decide⟩
theorem vi_X7_workBranch : Cond.instanceMethod yX7_workBranch ∈ TBg ∧ Cond.selects yX7_workBranch.cls yX7_workBranch yX7_workBranch ∈ TBg := ⟨tb_mem 889 (by decide +kernel) rfl, tb_mem 39 (by decide +kernel) rfl⟩
theorem tg_X8_wrong : JTg yX8_wrong cX8_wrong 8 (some FieldType.int) 3 := ⟨tb_mem 896 (by decide +kernel) rfl, tb_mem 76 (by decide +kernel) rfl, by decide +kernel, by decide⟩
theorem vi_X8_wrong : Cond.instanceMethod yX8_wrong ∈ TBg ∧ Cond.selects yX8_wrong.cls yX8_wrong yX8_wrong ∈ TBg := ⟨tb_mem 894 (by decide +kernel) rfl, tb_mem 895 (by decide +kernel) rfl⟩
theorem tg_X8_read : JTg yX8_read cX8_read 9 (some FieldType.int) 4 := ⟨tb_mem 900 (by decide +kernel) rfl, tb_mem 76 (by decide +kernel) rfl, by decide +kernel, by decide⟩
theorem vi_X8_read : Cond.instanceMethod yX8_read ∈ TBg ∧ Cond.selects yX8_read.cls yX8_read yX8_read ∈ TBg := ⟨tb_mem 898 (by decide +kernel) rfl, tb_mem 899 (by decide +kernel) rfl⟩
theorem tg_X8_about : JTg yX8_about cX8_about 2 (some FieldType.int) 1 := ⟨tb_mem 904 (by decide +kernel) rfl, tb_mem 76 (by decide +kernel) rfl, by decide +kernel, by decide⟩
theorem vi_X8_about : Cond.instanceMethod yX8_about ∈ TBg ∧ Cond.selects yX8_about.cls yX8_about yX8_about ∈ TBg := ⟨tb_mem 902 (by decide +kernel) rfl, tb_mem 903 (by decide +kernel) rfl⟩
theorem tg_X9_init : JTg yX9_init cX9_init 2 none 0 := ⟨tb_mem 909 (by decide +kernel) rfl, tb_mem 84 (by decide +kernel) rfl, by decide +kernel, by decide⟩
theorem ii_X9_init : Cond.instanceMethod yX9_init ∈ TBg ∧ yX9_init.name = "<init>" := ⟨tb_mem 908 (by decide +kernel) rfl, rfl⟩
theorem tg_X9_feed : JTg yX9_feed cX9_feed 6 (some FieldType.int) 5 := ⟨tb_mem 1084 (by decide +kernel) rfl, tb_mem 84 (by decide +kernel) rfl, by decide +kernel, by decide⟩
theorem vi_X9_feed : Cond.instanceMethod yX9_feed ∈ TBg ∧ Cond.selects yX9_feed.cls yX9_feed yX9_feed ∈ TBg := ⟨tb_mem 1082 (by decide +kernel) rfl, tb_mem 1083 (by decide +kernel) rfl⟩
theorem tg_X9_four : JTg yX9_four cX9_four 3 none 1 := ⟨tb_mem 1088 (by decide +kernel) rfl, tb_mem 84 (by decide +kernel) rfl, by decide +kernel, by decide⟩
theorem vi_X9_four : Cond.instanceMethod yX9_four ∈ TBg ∧ Cond.selects yX9_four.cls yX9_four yX9_four ∈ TBg := ⟨tb_mem 1087 (by decide +kernel) rfl, tb_mem 40 (by decide +kernel) rfl⟩
theorem tg_X9_end : JTg yX9_end cX9_end 2 (some FieldType.int) 1 := ⟨tb_mem 1092 (by decide +kernel) rfl, tb_mem 84 (by decide +kernel) rfl, by decide +kernel, by decide⟩
theorem vi_X9_end : Cond.instanceMethod yX9_end ∈ TBg ∧ Cond.selects yX9_end.cls yX9_end yX9_end ∈ TBg := ⟨tb_mem 1090 (by decide +kernel) rfl, tb_mem 1091 (by decide +kernel) rfl⟩
theorem tg_X9_isIn : JTg yX9_isIn cX9_isIn 3 (some FieldType.boolean) 3 := ⟨tb_mem 1095 (by decide +kernel) rfl, tb_mem 84 (by decide +kernel) rfl, by decide +kernel, by decide⟩
theorem st_X9_isIn : Cond.static yX9_isIn ∈ TBg := tb_mem 1094 (by decide +kernel) rfl
theorem tg_X9_tape : JTg yX9_tape cX9_tape 2 (some FieldType.int) 1 := ⟨tb_mem 1099 (by decide +kernel) rfl, tb_mem 84 (by decide +kernel) rfl, by decide +kernel, by decide⟩
theorem vi_X9_tape : Cond.instanceMethod yX9_tape ∈ TBg ∧ Cond.selects yX9_tape.cls yX9_tape yX9_tape ∈ TBg := ⟨tb_mem 1097 (by decide +kernel) rfl, tb_mem 1098 (by decide +kernel) rfl⟩
theorem tg_X9_image : JTg yX9_image cX9_image 2 (some FieldType.int) 1 := ⟨tb_mem 1103 (by decide +kernel) rfl, tb_mem 84 (by decide +kernel) rfl, by decide +kernel, by decide⟩
theorem vi_X9_image : Cond.instanceMethod yX9_image ∈ TBg ∧ Cond.selects yX9_image.cls yX9_image yX9_image ∈ TBg := ⟨tb_mem 1101 (by decide +kernel) rfl, tb_mem 1102 (by decide +kernel) rfl⟩
theorem tg_X9_fill : JTg yX9_fill cX9_fill 3 (some FieldType.boolean) 1 := ⟨tb_mem 1107 (by decide +kernel) rfl, tb_mem 84 (by decide +kernel) rfl, by decide +kernel, by decide⟩
theorem vi_X9_fill : Cond.instanceMethod yX9_fill ∈ TBg ∧ Cond.selects yX9_fill.cls yX9_fill yX9_fill ∈ TBg := ⟨tb_mem 1105 (by decide +kernel) rfl, tb_mem 1106 (by decide +kernel) rfl⟩
theorem tg_X9_file : JTg yX9_file cX9_file 3 (some FieldType.int) 1 := ⟨tb_mem 1111 (by decide +kernel) rfl, tb_mem 84 (by decide +kernel) rfl, by decide +kernel, by decide⟩
theorem vi_X9_file : Cond.instanceMethod yX9_file ∈ TBg ∧ Cond.selects yX9_file.cls yX9_file yX9_file ∈ TBg := ⟨tb_mem 1109 (by decide +kernel) rfl, tb_mem 1110 (by decide +kernel) rfl⟩
theorem tg_X9_readPlain : JTg yX9_readPlain cX9_readPlain 2 (some FieldType.int) 0 := ⟨tb_mem 1115 (by decide +kernel) rfl, tb_mem 84 (by decide +kernel) rfl, by decide +kernel, by decide⟩
theorem vi_X9_readPlain : Cond.instanceMethod yX9_readPlain ∈ TBg ∧ Cond.selects yX9_readPlain.cls yX9_readPlain yX9_readPlain ∈ TBg := ⟨tb_mem 1114 (by decide +kernel) rfl, tb_mem 41 (by decide +kernel) rfl⟩
theorem tg_X9_put : JTg yX9_put cX9_put 3 none 2 := ⟨tb_mem 1119 (by decide +kernel) rfl, tb_mem 84 (by decide +kernel) rfl, by decide +kernel, by decide⟩
theorem vi_X9_put : Cond.instanceMethod yX9_put ∈ TBg ∧ Cond.selects yX9_put.cls yX9_put yX9_put ∈ TBg := ⟨tb_mem 1118 (by decide +kernel) rfl, tb_mem 42 (by decide +kernel) rfl⟩
theorem tg_X9_readLines : JTg yX9_readLines cX9_readLines 6 (some FieldType.int) 1 := ⟨tb_mem 1123 (by decide +kernel) rfl, tb_mem 84 (by decide +kernel) rfl, by decide +kernel, by decide⟩
theorem vi_X9_readLines : Cond.instanceMethod yX9_readLines ∈ TBg ∧ Cond.selects yX9_readLines.cls yX9_readLines yX9_readLines ∈ TBg := ⟨tb_mem 1122 (by decide +kernel) rfl, tb_mem 43 (by decide +kernel) rfl⟩
theorem tg_X9_lineOne : JTg yX9_lineOne cX9_lineOne 5 (some FieldType.int) 2 := ⟨tb_mem 1127 (by decide +kernel) rfl, tb_mem 84 (by decide +kernel) rfl, by decide +kernel, by decide⟩
theorem vi_X9_lineOne : Cond.instanceMethod yX9_lineOne ∈ TBg ∧ Cond.selects yX9_lineOne.cls yX9_lineOne yX9_lineOne ∈ TBg := ⟨tb_mem 1126 (by decide +kernel) rfl, tb_mem 44 (by decide +kernel) rfl⟩
theorem tg_X9_bytes : JTg yX9_bytes cX9_bytes 7 (some FieldType.int) 2 := ⟨tb_mem 1131 (by decide +kernel) rfl, tb_mem 84 (by decide +kernel) rfl, by decide +kernel, by decide⟩
theorem vi_X9_bytes : Cond.instanceMethod yX9_bytes ∈ TBg ∧ Cond.selects yX9_bytes.cls yX9_bytes yX9_bytes ∈ TBg := ⟨tb_mem 1130 (by decide +kernel) rfl, tb_mem 45 (by decide +kernel) rfl⟩
theorem tg_X9_digitOf : JTg yX9_digitOf cX9_digitOf 1 (some FieldType.int) 1 := ⟨tb_mem 1134 (by decide +kernel) rfl, tb_mem 84 (by decide +kernel) rfl, by decide +kernel, by decide⟩
theorem st_X9_digitOf : Cond.static yX9_digitOf ∈ TBg := tb_mem 1133 (by decide +kernel) rfl
theorem tg_X9_sumOf : JTg yX9_sumOf cX9_sumOf 4 (some FieldType.int) 1 := ⟨tb_mem 1138 (by decide +kernel) rfl, tb_mem 84 (by decide +kernel) rfl, by decide +kernel, by decide⟩
theorem vi_X9_sumOf : Cond.instanceMethod yX9_sumOf ∈ TBg ∧ Cond.selects yX9_sumOf.cls yX9_sumOf yX9_sumOf ∈ TBg := ⟨tb_mem 1137 (by decide +kernel) rfl, tb_mem 46 (by decide +kernel) rfl⟩
theorem tg_X9_data : JTg yX9_data cX9_data 5 (some FieldType.int) 3 := ⟨tb_mem 1142 (by decide +kernel) rfl, tb_mem 84 (by decide +kernel) rfl, by decide +kernel, by decide⟩
theorem vi_X9_data : Cond.instanceMethod yX9_data ∈ TBg ∧ Cond.selects yX9_data.cls yX9_data yX9_data ∈ TBg := ⟨tb_mem 1141 (by decide +kernel) rfl, tb_mem 47 (by decide +kernel) rfl⟩
theorem tg_X9_lineTwo : JTg yX9_lineTwo cX9_lineTwo 5 (some FieldType.int) 2 := ⟨tb_mem 1146 (by decide +kernel) rfl, tb_mem 84 (by decide +kernel) rfl, by decide +kernel, by decide⟩
theorem vi_X9_lineTwo : Cond.instanceMethod yX9_lineTwo ∈ TBg ∧ Cond.selects yX9_lineTwo.cls yX9_lineTwo yX9_lineTwo ∈ TBg := ⟨tb_mem 1145 (by decide +kernel) rfl, tb_mem 48 (by decide +kernel) rfl⟩
theorem tg_X9_fault : JTg yX9_fault cX9_fault 2 (some FieldType.int) 1 := ⟨tb_mem 1150 (by decide +kernel) rfl, tb_mem 84 (by decide +kernel) rfl, by decide +kernel, by decide⟩
theorem vi_X9_fault : Cond.instanceMethod yX9_fault ∈ TBg ∧ Cond.selects yX9_fault.cls yX9_fault yX9_fault ∈ TBg := ⟨tb_mem 1148 (by decide +kernel) rfl, tb_mem 1149 (by decide +kernel) rfl⟩
theorem tg_X9_write : JTg yX9_write cX9_write 8 (some FieldType.int) 3 := ⟨tb_mem 1154 (by decide +kernel) rfl, tb_mem 84 (by decide +kernel) rfl, by decide +kernel, by decide⟩
theorem vi_X9_write : Cond.instanceMethod yX9_write ∈ TBg ∧ Cond.selects yX9_write.cls yX9_write yX9_write ∈ TBg := ⟨tb_mem 1152 (by decide +kernel) rfl, tb_mem 1153 (by decide +kernel) rfl⟩
theorem tg_X9_writeLine : JTg yX9_writeLine cX9_writeLine 6 none 4 := ⟨tb_mem 1158 (by decide +kernel) rfl, tb_mem 84 (by decide +kernel) rfl, by decide +kernel, by decide⟩
theorem vi_X9_writeLine : Cond.instanceMethod yX9_writeLine ∈ TBg ∧ Cond.selects yX9_writeLine.cls yX9_writeLine yX9_writeLine ∈ TBg := ⟨tb_mem 1157 (by decide +kernel) rfl, tb_mem 49 (by decide +kernel) rfl⟩
theorem tg_X9_writeSign : JTg yX9_writeSign cX9_writeSign 2 none 1 := ⟨tb_mem 1162 (by decide +kernel) rfl, tb_mem 84 (by decide +kernel) rfl, by decide +kernel, by decide⟩
theorem vi_X9_writeSign : Cond.instanceMethod yX9_writeSign ∈ TBg ∧ Cond.selects yX9_writeSign.cls yX9_writeSign yX9_writeSign ∈ TBg := ⟨tb_mem 1161 (by decide +kernel) rfl, tb_mem 50 (by decide +kernel) rfl⟩
theorem tg_X9_writeByte : JTg yX9_writeByte cX9_writeByte 4 none 1 := ⟨tb_mem 1166 (by decide +kernel) rfl, tb_mem 84 (by decide +kernel) rfl, by decide +kernel, by decide⟩
theorem vi_X9_writeByte : Cond.instanceMethod yX9_writeByte ∈ TBg ∧ Cond.selects yX9_writeByte.cls yX9_writeByte yX9_writeByte ∈ TBg := ⟨tb_mem 1165 (by decide +kernel) rfl, tb_mem 51 (by decide +kernel) rfl⟩
theorem tg_X9_chip : JTg yX9_chip cX9_chip 11 (some FieldType.int) 8 := ⟨tb_mem 1170 (by decide +kernel) rfl, tb_mem 84 (by decide +kernel) rfl, by decide +kernel, by decide⟩
theorem vi_X9_chip : Cond.instanceMethod yX9_chip ∈ TBg ∧ Cond.selects yX9_chip.cls yX9_chip yX9_chip ∈ TBg := ⟨tb_mem 1168 (by decide +kernel) rfl, tb_mem 1169 (by decide +kernel) rfl⟩
theorem tg_X9_need : JTg yX9_need cX9_need 4 (some FieldType.boolean) 3 := ⟨tb_mem 1174 (by decide +kernel) rfl, tb_mem 84 (by decide +kernel) rfl, by decide +kernel, by decide⟩
theorem vi_X9_need : Cond.instanceMethod yX9_need ∈ TBg ∧ Cond.selects yX9_need.cls yX9_need yX9_need ∈ TBg := ⟨tb_mem 1172 (by decide +kernel) rfl, tb_mem 1173 (by decide +kernel) rfl⟩
theorem tg_X9_isAddress : JTg yX9_isAddress cX9_isAddress 3 (some FieldType.boolean) 2 := ⟨tb_mem 1178 (by decide +kernel) rfl, tb_mem 84 (by decide +kernel) rfl, by decide +kernel, by decide⟩
theorem vi_X9_isAddress : Cond.instanceMethod yX9_isAddress ∈ TBg ∧ Cond.selects yX9_isAddress.cls yX9_isAddress yX9_isAddress ∈ TBg := ⟨tb_mem 1177 (by decide +kernel) rfl, tb_mem 52 (by decide +kernel) rfl⟩
theorem tg_X9_isChip : JTg yX9_isChip cX9_isChip 2 (some FieldType.boolean) 1 := ⟨tb_mem 1182 (by decide +kernel) rfl, tb_mem 84 (by decide +kernel) rfl, by decide +kernel, by decide⟩
theorem vi_X9_isChip : Cond.instanceMethod yX9_isChip ∈ TBg ∧ Cond.selects yX9_isChip.cls yX9_isChip yX9_isChip ∈ TBg := ⟨tb_mem 1181 (by decide +kernel) rfl, tb_mem 53 (by decide +kernel) rfl⟩
theorem tg_X9_bad : JTg yX9_bad cX9_bad 4 (some FieldType.boolean) 3 := ⟨tb_mem 1186 (by decide +kernel) rfl, tb_mem 84 (by decide +kernel) rfl, by decide +kernel, by decide⟩
theorem vi_X9_bad : Cond.instanceMethod yX9_bad ∈ TBg ∧ Cond.selects yX9_bad.cls yX9_bad yX9_bad ∈ TBg := ⟨tb_mem 1184 (by decide +kernel) rfl, tb_mem 1185 (by decide +kernel) rfl⟩
theorem tg_X9_contact : JTg yX9_contact cX9_contact 4 (some FieldType.boolean) 3 := ⟨tb_mem 1190 (by decide +kernel) rfl, tb_mem 84 (by decide +kernel) rfl, by decide +kernel, by decide⟩
theorem vi_X9_contact : Cond.instanceMethod yX9_contact ∈ TBg ∧ Cond.selects yX9_contact.cls yX9_contact yX9_contact ∈ TBg := ⟨tb_mem 1188 (by decide +kernel) rfl, tb_mem 1189 (by decide +kernel) rfl⟩
theorem tg_X9_erase : JTg yX9_erase cX9_erase 3 (some FieldType.int) 1 := ⟨tb_mem 1194 (by decide +kernel) rfl, tb_mem 84 (by decide +kernel) rfl, by decide +kernel, by decide⟩
theorem vi_X9_erase : Cond.instanceMethod yX9_erase ∈ TBg ∧ Cond.selects yX9_erase.cls yX9_erase yX9_erase ∈ TBg := ⟨tb_mem 1192 (by decide +kernel) rfl, tb_mem 1193 (by decide +kernel) rfl⟩
theorem tg_X9_chipOf : JTg yX9_chipOf cX9_chipOf 5 (some FieldType.int) 2 := ⟨tb_mem 1198 (by decide +kernel) rfl, tb_mem 84 (by decide +kernel) rfl, by decide +kernel, by decide⟩
theorem vi_X9_chipOf : Cond.instanceMethod yX9_chipOf ∈ TBg ∧ Cond.selects yX9_chipOf.cls yX9_chipOf yX9_chipOf ∈ TBg := ⟨tb_mem 1196 (by decide +kernel) rfl, tb_mem 1197 (by decide +kernel) rfl⟩
theorem tg_X9_logicals : JTg yX9_logicals cX9_logicals 4 (some FieldType.int) 1 := ⟨tb_mem 1202 (by decide +kernel) rfl, tb_mem 84 (by decide +kernel) rfl, by decide +kernel, by decide⟩
theorem vi_X9_logicals : Cond.instanceMethod yX9_logicals ∈ TBg ∧ Cond.selects yX9_logicals.cls yX9_logicals yX9_logicals ∈ TBg := ⟨tb_mem 1201 (by decide +kernel) rfl, tb_mem 54 (by decide +kernel) rfl⟩
theorem tg_X9_addressOf : JTg yX9_addressOf cX9_addressOf 5 (some FieldType.int) 2 := ⟨tb_mem 1206 (by decide +kernel) rfl, tb_mem 84 (by decide +kernel) rfl, by decide +kernel, by decide⟩
theorem vi_X9_addressOf : Cond.instanceMethod yX9_addressOf ∈ TBg ∧ Cond.selects yX9_addressOf.cls yX9_addressOf yX9_addressOf ∈ TBg := ⟨tb_mem 1205 (by decide +kernel) rfl, tb_mem 55 (by decide +kernel) rfl⟩
theorem tg_X9_lacking : JTg yX9_lacking cX9_lacking 3 (some FieldType.int) 1 := ⟨tb_mem 1210 (by decide +kernel) rfl, tb_mem 84 (by decide +kernel) rfl, by decide +kernel, by decide⟩
theorem vi_X9_lacking : Cond.instanceMethod yX9_lacking ∈ TBg ∧ Cond.selects yX9_lacking.cls yX9_lacking yX9_lacking ∈ TBg := ⟨tb_mem 1209 (by decide +kernel) rfl, tb_mem 56 (by decide +kernel) rfl⟩
theorem tg_X9_recipe : JTg yX9_recipe cX9_recipe 3 (some FieldType.int) 1 := ⟨tb_mem 1216 (by decide +kernel) rfl, tb_mem 84 (by decide +kernel) rfl, by decide +kernel, by decide⟩
theorem vi_X9_recipe : Cond.instanceMethod yX9_recipe ∈ TBg ∧ Cond.selects yX9_recipe.cls yX9_recipe yX9_recipe ∈ TBg := ⟨tb_mem 1214 (by decide +kernel) rfl, tb_mem 1215 (by decide +kernel) rfl⟩
theorem tg_X9_readRecipe : JTg yX9_readRecipe cX9_readRecipe 2 (some FieldType.int) 0 := ⟨tb_mem 1220 (by decide +kernel) rfl, tb_mem 84 (by decide +kernel) rfl, by decide +kernel, by decide⟩
theorem vi_X9_readRecipe : Cond.instanceMethod yX9_readRecipe ∈ TBg ∧ Cond.selects yX9_readRecipe.cls yX9_readRecipe yX9_readRecipe ∈ TBg := ⟨tb_mem 1219 (by decide +kernel) rfl, tb_mem 57 (by decide +kernel) rfl⟩
theorem tg_X9_nextToken : JTg yX9_nextToken cX9_nextToken 4 none 0 := ⟨tb_mem 1224 (by decide +kernel) rfl, tb_mem 84 (by decide +kernel) rfl, by decide +kernel, by decide⟩
theorem vi_X9_nextToken : Cond.instanceMethod yX9_nextToken ∈ TBg ∧ Cond.selects yX9_nextToken.cls yX9_nextToken yX9_nextToken ∈ TBg := ⟨tb_mem 1223 (by decide +kernel) rfl, tb_mem 58 (by decide +kernel) rfl⟩
theorem tg_X9_see : JTg yX9_see cX9_see 2 (some FieldType.int) 1 := ⟨tb_mem 1228 (by decide +kernel) rfl, tb_mem 84 (by decide +kernel) rfl, by decide +kernel, by decide⟩
theorem vi_X9_see : Cond.instanceMethod yX9_see ∈ TBg ∧ Cond.selects yX9_see.cls yX9_see yX9_see ∈ TBg := ⟨tb_mem 1227 (by decide +kernel) rfl, tb_mem 59 (by decide +kernel) rfl⟩
theorem tg_X9_isDigit : JTg yX9_isDigit cX9_isDigit 1 (some FieldType.boolean) 1 := ⟨tb_mem 1231 (by decide +kernel) rfl, tb_mem 84 (by decide +kernel) rfl, by decide +kernel, by decide⟩
theorem st_X9_isDigit : Cond.static yX9_isDigit ∈ TBg := tb_mem 1230 (by decide +kernel) rfl
theorem tg_X9_isLetter : JTg yX9_isLetter cX9_isLetter 1 (some FieldType.boolean) 1 := ⟨tb_mem 1235 (by decide +kernel) rfl, tb_mem 84 (by decide +kernel) rfl, by decide +kernel, by decide⟩
theorem st_X9_isLetter : Cond.static yX9_isLetter ∈ TBg := tb_mem 1234 (by decide +kernel) rfl
theorem tg_X9_wordOf : JTg yX9_wordOf cX9_wordOf 2 (some FieldType.int) 1 := ⟨tb_mem 1238 (by decide +kernel) rfl, tb_mem 84 (by decide +kernel) rfl, by decide +kernel, by decide⟩
theorem st_X9_wordOf : Cond.static yX9_wordOf ∈ TBg := tb_mem 1237 (by decide +kernel) rfl
theorem tg_X9_add : JTg yX9_add cX9_add 4 (some FieldType.long) 3 := ⟨tb_mem 1241 (by decide +kernel) rfl, tb_mem 84 (by decide +kernel) rfl, by decide +kernel, by decide⟩
theorem st_X9_add : Cond.static yX9_add ∈ TBg := tb_mem 1240 (by decide +kernel) rfl
theorem tg_X9_brace : JTg yX9_brace cX9_brace 4 (some FieldType.int) 0 := ⟨tb_mem 1247 (by decide +kernel) rfl, tb_mem 84 (by decide +kernel) rfl, by decide +kernel, by decide⟩
theorem vi_X9_brace : Cond.instanceMethod yX9_brace ∈ TBg ∧ Cond.selects yX9_brace.cls yX9_brace yX9_brace ∈ TBg := ⟨tb_mem 1246 (by decide +kernel) rfl, tb_mem 60 (by decide +kernel) rfl⟩
theorem tg_X9_order : JTg yX9_order cX9_order 5 (some FieldType.int) 3 := ⟨tb_mem 1251 (by decide +kernel) rfl, tb_mem 84 (by decide +kernel) rfl, by decide +kernel, by decide⟩
theorem vi_X9_order : Cond.instanceMethod yX9_order ∈ TBg ∧ Cond.selects yX9_order.cls yX9_order yX9_order ∈ TBg := ⟨tb_mem 1250 (by decide +kernel) rfl, tb_mem 61 (by decide +kernel) rfl⟩
theorem tg_X9_close : JTg yX9_close cX9_close 3 none 2 := ⟨tb_mem 1257 (by decide +kernel) rfl, tb_mem 84 (by decide +kernel) rfl, by decide +kernel, by decide⟩
theorem vi_X9_close : Cond.instanceMethod yX9_close ∈ TBg ∧ Cond.selects yX9_close.cls yX9_close yX9_close ∈ TBg := ⟨tb_mem 1256 (by decide +kernel) rfl, tb_mem 62 (by decide +kernel) rfl⟩
theorem tg_X9_lesser : JTg yX9_lesser cX9_lesser 2 (some FieldType.int) 2 := ⟨tb_mem 1260 (by decide +kernel) rfl, tb_mem 84 (by decide +kernel) rfl, by decide +kernel, by decide⟩
theorem st_X9_lesser : Cond.static yX9_lesser ∈ TBg := tb_mem 1259 (by decide +kernel) rfl
theorem tg_X9_step : JTg yX9_step cX9_step 3 (some FieldType.int) 0 := ⟨tb_mem 1264 (by decide +kernel) rfl, tb_mem 84 (by decide +kernel) rfl, by decide +kernel, by decide⟩
theorem vi_X9_step : Cond.instanceMethod yX9_step ∈ TBg ∧ Cond.selects yX9_step.cls yX9_step yX9_step ∈ TBg := ⟨tb_mem 1263 (by decide +kernel) rfl, tb_mem 63 (by decide +kernel) rfl⟩
theorem tg_X9_semicolon : JTg yX9_semicolon cX9_semicolon 1 (some FieldType.int) 0 := ⟨tb_mem 1268 (by decide +kernel) rfl, tb_mem 84 (by decide +kernel) rfl, by decide +kernel, by decide⟩
theorem vi_X9_semicolon : Cond.instanceMethod yX9_semicolon ∈ TBg ∧ Cond.selects yX9_semicolon.cls yX9_semicolon yX9_semicolon ∈ TBg := ⟨tb_mem 1267 (by decide +kernel) rfl, tb_mem 64 (by decide +kernel) rfl⟩
theorem tg_X9_begin : JTg yX9_begin cX9_begin 2 none 1 := ⟨tb_mem 1272 (by decide +kernel) rfl, tb_mem 84 (by decide +kernel) rfl, by decide +kernel, by decide⟩
theorem vi_X9_begin : Cond.instanceMethod yX9_begin ∈ TBg ∧ Cond.selects yX9_begin.cls yX9_begin yX9_begin ∈ TBg := ⟨tb_mem 1271 (by decide +kernel) rfl, tb_mem 65 (by decide +kernel) rfl⟩
theorem tg_X9_walk : JTg yX9_walk cX9_walk 3 (some FieldType.int) 2 := ⟨tb_mem 1276 (by decide +kernel) rfl, tb_mem 84 (by decide +kernel) rfl, by decide +kernel, by decide⟩
theorem vi_X9_walk : Cond.instanceMethod yX9_walk ∈ TBg ∧ Cond.selects yX9_walk.cls yX9_walk yX9_walk ∈ TBg := ⟨tb_mem 1274 (by decide +kernel) rfl, tb_mem 1275 (by decide +kernel) rfl⟩
theorem tg_X9_mostVolts : JTg yX9_mostVolts cX9_mostVolts 5 (some FieldType.int) 1 := ⟨tb_mem 1280 (by decide +kernel) rfl, tb_mem 84 (by decide +kernel) rfl, by decide +kernel, by decide⟩
theorem vi_X9_mostVolts : Cond.instanceMethod yX9_mostVolts ∈ TBg ∧ Cond.selects yX9_mostVolts.cls yX9_mostVolts yX9_mostVolts ∈ TBg := ⟨tb_mem 1279 (by decide +kernel) rfl, tb_mem 66 (by decide +kernel) rfl⟩
theorem tg_X9_flowFrom : JTg yX9_flowFrom cX9_flowFrom 5 none 2 := ⟨tb_mem 1284 (by decide +kernel) rfl, tb_mem 84 (by decide +kernel) rfl, by decide +kernel, by decide⟩
theorem vi_X9_flowFrom : Cond.instanceMethod yX9_flowFrom ∈ TBg ∧ Cond.selects yX9_flowFrom.cls yX9_flowFrom yX9_flowFrom ∈ TBg := ⟨tb_mem 1283 (by decide +kernel) rfl, tb_mem 67 (by decide +kernel) rfl⟩
theorem tg_X9_flow : JTg yX9_flow cX9_flow 3 none 2 := ⟨tb_mem 1288 (by decide +kernel) rfl, tb_mem 84 (by decide +kernel) rfl, by decide +kernel, by decide⟩
theorem vi_X9_flow : Cond.instanceMethod yX9_flow ∈ TBg ∧ Cond.selects yX9_flow.cls yX9_flow yX9_flow ∈ TBg := ⟨tb_mem 1287 (by decide +kernel) rfl, tb_mem 68 (by decide +kernel) rfl⟩
theorem tg_X9_why : JTg yX9_why cX9_why 6 (some FieldType.int) 5 := ⟨tb_mem 1293 (by decide +kernel) rfl, tb_mem 84 (by decide +kernel) rfl, by decide +kernel, by decide⟩
theorem vi_X9_why : Cond.instanceMethod yX9_why ∈ TBg ∧ Cond.selects yX9_why.cls yX9_why yX9_why ∈ TBg := ⟨tb_mem 1291 (by decide +kernel) rfl, tb_mem 1292 (by decide +kernel) rfl⟩
theorem tg_X9_isPart : JTg yX9_isPart cX9_isPart 2 (some FieldType.boolean) 2 := ⟨tb_mem 1296 (by decide +kernel) rfl, tb_mem 84 (by decide +kernel) rfl, by decide +kernel, by decide⟩
theorem st_X9_isPart : Cond.static yX9_isPart ∈ TBg := tb_mem 1295 (by decide +kernel) rfl
theorem tg_X9_whyNot : JTg yX9_whyNot cX9_whyNot 9 (some FieldType.int) 5 := ⟨tb_mem 1300 (by decide +kernel) rfl, tb_mem 84 (by decide +kernel) rfl, by decide +kernel, by decide⟩
theorem vi_X9_whyNot : Cond.instanceMethod yX9_whyNot ∈ TBg ∧ Cond.selects yX9_whyNot.cls yX9_whyNot yX9_whyNot ∈ TBg := ⟨tb_mem 1299 (by decide +kernel) rfl, tb_mem 69 (by decide +kernel) rfl⟩
theorem tg_X9_isFit : JTg yX9_isFit cX9_isFit 3 (some FieldType.boolean) 2 := ⟨tb_mem 1304 (by decide +kernel) rfl, tb_mem 84 (by decide +kernel) rfl, by decide +kernel, by decide⟩
theorem vi_X9_isFit : Cond.instanceMethod yX9_isFit ∈ TBg ∧ Cond.selects yX9_isFit.cls yX9_isFit yX9_isFit ∈ TBg := ⟨tb_mem 1303 (by decide +kernel) rfl, tb_mem 70 (by decide +kernel) rfl⟩
theorem tg_X9_last : JTg yX9_last cX9_last 6 (some FieldType.int) 3 := ⟨tb_mem 1308 (by decide +kernel) rfl, tb_mem 84 (by decide +kernel) rfl, by decide +kernel, by decide⟩
theorem vi_X9_last : Cond.instanceMethod yX9_last ∈ TBg ∧ Cond.selects yX9_last.cls yX9_last yX9_last ∈ TBg := ⟨tb_mem 1307 (by decide +kernel) rfl, tb_mem 71 (by decide +kernel) rfl⟩
theorem tg_X9_burn : JTg yX9_burn cX9_burn 10 (some FieldType.int) 6 := ⟨tb_mem 1312 (by decide +kernel) rfl, tb_mem 84 (by decide +kernel) rfl, by decide +kernel, by decide⟩
theorem vi_X9_burn : Cond.instanceMethod yX9_burn ∈ TBg ∧ Cond.selects yX9_burn.cls yX9_burn yX9_burn ∈ TBg := ⟨tb_mem 1310 (by decide +kernel) rfl, tb_mem 1311 (by decide +kernel) rfl⟩
theorem tg_X9_isWrong : JTg yX9_isWrong cX9_isWrong 4 (some FieldType.boolean) 3 := ⟨tb_mem 1317 (by decide +kernel) rfl, tb_mem 84 (by decide +kernel) rfl, by decide +kernel, by decide⟩
theorem vi_X9_isWrong : Cond.instanceMethod yX9_isWrong ∈ TBg ∧ Cond.selects yX9_isWrong.cls yX9_isWrong yX9_isWrong ∈ TBg := ⟨tb_mem 1316 (by decide +kernel) rfl, tb_mem 72 (by decide +kernel) rfl⟩
theorem tg_X9_work : JTg yX9_work cX9_work 12 none 4 := ⟨tb_mem 1321 (by decide +kernel) rfl, tb_mem 84 (by decide +kernel) rfl, by decide +kernel, by decide⟩
theorem vi_X9_work : Cond.instanceMethod yX9_work ∈ TBg ∧ Cond.selects yX9_work.cls yX9_work yX9_work ∈ TBg := ⟨tb_mem 1320 (by decide +kernel) rfl, tb_mem 73 (by decide +kernel) rfl⟩
theorem tg_X9_pulse : JTg yX9_pulse cX9_pulse 6 none 4 := ⟨tb_mem 1325 (by decide +kernel) rfl, tb_mem 84 (by decide +kernel) rfl, by decide +kernel, by decide⟩
theorem vi_X9_pulse : Cond.instanceMethod yX9_pulse ∈ TBg ∧ Cond.selects yX9_pulse.cls yX9_pulse yX9_pulse ∈ TBg := ⟨tb_mem 1324 (by decide +kernel) rfl, tb_mem 74 (by decide +kernel) rfl⟩
theorem tg_X9_wrong : JTg yX9_wrong cX9_wrong 6 (some FieldType.int) 3 := ⟨tb_mem 1329 (by decide +kernel) rfl, tb_mem 84 (by decide +kernel) rfl, by decide +kernel, by decide⟩
theorem vi_X9_wrong : Cond.instanceMethod yX9_wrong ∈ TBg ∧ Cond.selects yX9_wrong.cls yX9_wrong yX9_wrong ∈ TBg := ⟨tb_mem 1327 (by decide +kernel) rfl, tb_mem 1328 (by decide +kernel) rfl⟩
theorem tg_X9_read : JTg yX9_read cX9_read 8 (some FieldType.int) 4 := ⟨tb_mem 1333 (by decide +kernel) rfl, tb_mem 84 (by decide +kernel) rfl, by decide +kernel, by decide⟩
theorem vi_X9_read : Cond.instanceMethod yX9_read ∈ TBg ∧ Cond.selects yX9_read.cls yX9_read yX9_read ∈ TBg := ⟨tb_mem 1331 (by decide +kernel) rfl, tb_mem 1332 (by decide +kernel) rfl⟩
theorem tg_X9_about : JTg yX9_about cX9_about 2 (some FieldType.int) 1 := ⟨tb_mem 1337 (by decide +kernel) rfl, tb_mem 84 (by decide +kernel) rfl, by decide +kernel, by decide⟩
theorem vi_X9_about : Cond.instanceMethod yX9_about ∈ TBg ∧ Cond.selects yX9_about.cls yX9_about yX9_about ∈ TBg := ⟨tb_mem 1335 (by decide +kernel) rfl, tb_mem 1336 (by decide +kernel) rfl⟩
theorem it_L : Cond.initialized RL ∈ TBg := tb_mem 75 (by decide +kernel) rfl
theorem it_X8 : Cond.initialized RX8 ∈ TBg := tb_mem 76 (by decide +kernel) rfl
theorem it_X6 : Cond.initialized RX6 ∈ TBg := tb_mem 77 (by decide +kernel) rfl
theorem it_X1 : Cond.initialized RX1 ∈ TBg := tb_mem 78 (by decide +kernel) rfl
theorem it_X2 : Cond.initialized RX2 ∈ TBg := tb_mem 79 (by decide +kernel) rfl
theorem it_X3 : Cond.initialized RX3 ∈ TBg := tb_mem 80 (by decide +kernel) rfl
theorem it_X5 : Cond.initialized RX5 ∈ TBg := tb_mem 81 (by decide +kernel) rfl
theorem it_X4 : Cond.initialized RX4 ∈ TBg := tb_mem 82 (by decide +kernel) rfl
theorem it_J7 : Cond.initialized RJ7 ∈ TBg := tb_mem 83 (by decide +kernel) rfl
theorem it_X9 : Cond.initialized RX9 ∈ TBg := tb_mem 84 (by decide +kernel) rfl
theorem it_J9 : Cond.initialized RJ9 ∈ TBg := tb_mem 85 (by decide +kernel) rfl
theorem it_J10 : Cond.initialized RJ10 ∈ TBg := tb_mem 86 (by decide +kernel) rfl
theorem it_X0 : Cond.initialized RX0 ∈ TBg := tb_mem 87 (by decide +kernel) rfl
theorem it_J0 : Cond.initialized RJ0 ∈ TBg := tb_mem 88 (by decide +kernel) rfl
theorem it_J1 : Cond.initialized RJ1 ∈ TBg := tb_mem 89 (by decide +kernel) rfl
theorem it_J3 : Cond.initialized RJ3 ∈ TBg := tb_mem 90 (by decide +kernel) rfl
theorem it_J2 : Cond.initialized RJ2 ∈ TBg := tb_mem 91 (by decide +kernel) rfl
theorem it_X7 : Cond.initialized RX7 ∈ TBg := tb_mem 92 (by decide +kernel) rfl
theorem cl_L_7 : Cond.classLink RL 7 RX8 ∈ TBg := tb_mem 93 (by decide +kernel) rfl
theorem in_X8 : Cond.instantiable RX8 11 ∈ TBg := tb_mem 94 (by decide +kernel) rfl
theorem cl_X8_7 : Cond.classLink RX8 7 RX6 ∈ TBg := tb_mem 101 (by decide +kernel) rfl
theorem in_X6 : Cond.instantiable RX6 2 ∈ TBg := tb_mem 102 (by decide +kernel) rfl
theorem ac_int : Cond.arrayClass .int ∈ TBg := tb_mem 114 (by decide +kernel) rfl
theorem cl_X8_20 : Cond.classLink RX8 20 RX1 ∈ TBg := tb_mem 115 (by decide +kernel) rfl
theorem in_X1 : Cond.instantiable RX1 2 ∈ TBg := tb_mem 116 (by decide +kernel) rfl
theorem cl_X8_27 : Cond.classLink RX8 27 RX2 ∈ TBg := tb_mem 130 (by decide +kernel) rfl
theorem in_X2 : Cond.instantiable RX2 9 ∈ TBg := tb_mem 131 (by decide +kernel) rfl
theorem cl_X8_36 : Cond.classLink RX8 36 RX3 ∈ TBg := tb_mem 164 (by decide +kernel) rfl
theorem in_X3 : Cond.instantiable RX3 2 ∈ TBg := tb_mem 165 (by decide +kernel) rfl
theorem cl_X8_45 : Cond.classLink RX8 45 RX5 ∈ TBg := tb_mem 177 (by decide +kernel) rfl
theorem in_X5 : Cond.instantiable RX5 8 ∈ TBg := tb_mem 178 (by decide +kernel) rfl
theorem ac_boolean : Cond.arrayClass .boolean ∈ TBg := tb_mem 208 (by decide +kernel) rfl
theorem cl_X8_52 : Cond.classLink RX8 52 RX0 ∈ TBg := tb_mem 209 (by decide +kernel) rfl
theorem cl_X8_58 : Cond.classLink RX8 58 RX4 ∈ TBg := tb_mem 211 (by decide +kernel) rfl
theorem in_X4 : Cond.instantiable RX4 8 ∈ TBg := tb_mem 213 (by decide +kernel) rfl
theorem k_X8_97 : Cond.constantLong RX8 97 2147483647 ∈ TBg := tb_mem 393 (by decide +kernel) rfl
theorem in_X0 : Cond.instantiable RX0 17 ∈ TBg := tb_mem 456 (by decide +kernel) rfl
theorem k_X4_43 : Cond.constantLong RX4 43 1000000 ∈ TBg := tb_mem 780 (by decide +kernel) rfl
theorem ac_byte : Cond.arrayClass .byte ∈ TBg := tb_mem 789 (by decide +kernel) rfl
theorem k_X8_201 : Cond.constant RX8 201 100000 ∈ TBg := tb_mem 829 (by decide +kernel) rfl
theorem cl_X8_202 : Cond.classLink RX8 202 RX7 ∈ TBg := tb_mem 830 (by decide +kernel) rfl
theorem in_X7 : Cond.instantiable RX7 7 ∈ TBg := tb_mem 831 (by decide +kernel) rfl
theorem cl_L_10 : Cond.classLink RL 10 RX9 ∈ TBg := tb_mem 905 (by decide +kernel) rfl
theorem in_X9 : Cond.instantiable RX9 56 ∈ TBg := tb_mem 906 (by decide +kernel) rfl
theorem ac_long : Cond.arrayClass .long ∈ TBg := tb_mem 1080 (by decide +kernel) rfl
theorem k_X9_216 : Cond.constantLong RX9 216 2147483647 ∈ TBg := tb_mem 1211 (by decide +kernel) rfl
theorem k_X9_218 : Cond.constant RX9 218 2147483647 ∈ TBg := tb_mem 1212 (by decide +kernel) rfl
theorem k_X9_245 : Cond.constant RX9 245 100000 ∈ TBg := tb_mem 1232 (by decide +kernel) rfl
theorem k_X9_223 : Cond.constantLong RX9 223 112 ∈ TBg := tb_mem 1242 (by decide +kernel) rfl
theorem k_X9_225 : Cond.constantLong RX9 225 116 ∈ TBg := tb_mem 1243 (by decide +kernel) rfl
theorem k_X9_284 : Cond.constantLong RX9 284 1000000 ∈ TBg := tb_mem 1252 (by decide +kernel) rfl
theorem k_X9_265 : Cond.constant RX9 265 1000001 ∈ TBg := tb_mem 1253 (by decide +kernel) rfl
theorem k_X9_310 : Cond.constant RX9 310 1000000 ∈ TBg := tb_mem 1289 (by decide +kernel) rfl
theorem lo_X0_3 : Cond.methodLink RX0 3 Lib.objectInit ∈ TBg := tb_mem 460 (by decide +kernel) rfl
theorem lo_X1_3 : Cond.methodLink RX1 3 Lib.objectInit ∈ TBg := tb_mem 120 (by decide +kernel) rfl
theorem lo_X2_3 : Cond.methodLink RX2 3 Lib.objectInit ∈ TBg := tb_mem 135 (by decide +kernel) rfl
theorem lo_X3_3 : Cond.methodLink RX3 3 Lib.objectInit ∈ TBg := tb_mem 169 (by decide +kernel) rfl
theorem lo_X4_3 : Cond.methodLink RX4 3 Lib.objectInit ∈ TBg := tb_mem 217 (by decide +kernel) rfl
theorem lo_X5_3 : Cond.methodLink RX5 3 Lib.objectInit ∈ TBg := tb_mem 182 (by decide +kernel) rfl
theorem lo_X6_3 : Cond.methodLink RX6 3 Lib.objectInit ∈ TBg := tb_mem 106 (by decide +kernel) rfl
theorem lo_X7_3 : Cond.methodLink RX7 3 Lib.objectInit ∈ TBg := tb_mem 835 (by decide +kernel) rfl
theorem lo_X8_1 : Cond.methodLink RX8 1 Lib.objectInit ∈ TBg := tb_mem 98 (by decide +kernel) rfl
theorem lo_X9_1 : Cond.methodLink RX9 1 Lib.objectInit ∈ TBg := tb_mem 910 (by decide +kernel) rfl
theorem obI : Cond.instanceMethod Lib.objectInit ∈ TBg := tb_mem 99 (by decide +kernel) rfl
theorem obC : Cond.code Lib.objectInit ⟨#[0xb1]⟩ 1 none ∈ TBg := tb_mem 100 (by decide +kernel) rfl
theorem c_bipush_6 : (Int8.ofInt (6)).toInt32 = 6 := by decide
theorem c_bipush_7 : (Int8.ofInt (7)).toInt32 = 7 := by decide
theorem c_bipush_8 : (Int8.ofInt (8)).toInt32 = 8 := by decide
theorem c_bipush_9 : (Int8.ofInt (9)).toInt32 = 9 := by decide
theorem c_bipush_10 : (Int8.ofInt (10)).toInt32 = 10 := by decide
theorem c_bipush_11 : (Int8.ofInt (11)).toInt32 = 11 := by decide
theorem c_bipush_12 : (Int8.ofInt (12)).toInt32 = 12 := by decide
theorem c_bipush_13 : (Int8.ofInt (13)).toInt32 = 13 := by decide
theorem c_bipush_15 : (Int8.ofInt (15)).toInt32 = 15 := by decide
theorem c_bipush_16 : (Int8.ofInt (16)).toInt32 = 16 := by decide
theorem c_bipush_20 : (Int8.ofInt (20)).toInt32 = 20 := by decide
theorem c_bipush_24 : (Int8.ofInt (24)).toInt32 = 24 := by decide
theorem c_bipush_27 : (Int8.ofInt (27)).toInt32 = 27 := by decide
theorem c_bipush_28 : (Int8.ofInt (28)).toInt32 = 28 := by decide
theorem c_bipush_30 : (Int8.ofInt (30)).toInt32 = 30 := by decide
theorem c_bipush_31 : (Int8.ofInt (31)).toInt32 = 31 := by decide
theorem c_bipush_32 : (Int8.ofInt (32)).toInt32 = 32 := by decide
theorem c_bipush_40 : (Int8.ofInt (40)).toInt32 = 40 := by decide
theorem c_bipush_48 : (Int8.ofInt (48)).toInt32 = 48 := by decide
theorem c_bipush_49 : (Int8.ofInt (49)).toInt32 = 49 := by decide
theorem c_bipush_50 : (Int8.ofInt (50)).toInt32 = 50 := by decide
theorem c_bipush_57 : (Int8.ofInt (57)).toInt32 = 57 := by decide
theorem c_bipush_58 : (Int8.ofInt (58)).toInt32 = 58 := by decide
theorem c_bipush_59 : (Int8.ofInt (59)).toInt32 = 59 := by decide
theorem c_bipush_60 : (Int8.ofInt (60)).toInt32 = 60 := by decide
theorem c_bipush_64 : (Int8.ofInt (64)).toInt32 = 64 := by decide
theorem c_bipush_65 : (Int8.ofInt (65)).toInt32 = 65 := by decide
theorem c_bipush_70 : (Int8.ofInt (70)).toInt32 = 70 := by decide
theorem c_bipush_83 : (Int8.ofInt (83)).toInt32 = 83 := by decide
theorem c_bipush_90 : (Int8.ofInt (90)).toInt32 = 90 := by decide
theorem c_bipush_97 : (Int8.ofInt (97)).toInt32 = 97 := by decide
theorem c_bipush_100 : (Int8.ofInt (100)).toInt32 = 100 := by decide
theorem c_bipush_101 : (Int8.ofInt (101)).toInt32 = 101 := by decide
theorem c_bipush_102 : (Int8.ofInt (102)).toInt32 = 102 := by decide
theorem c_bipush_105 : (Int8.ofInt (105)).toInt32 = 105 := by decide
theorem c_bipush_107 : (Int8.ofInt (107)).toInt32 = 107 := by decide
theorem c_bipush_108 : (Int8.ofInt (108)).toInt32 = 108 := by decide
theorem c_bipush_111 : (Int8.ofInt (111)).toInt32 = 111 := by decide
theorem c_bipush_112 : (Int8.ofInt (112)).toInt32 = 112 := by decide
theorem c_bipush_114 : (Int8.ofInt (114)).toInt32 = 114 := by decide
theorem c_bipush_115 : (Int8.ofInt (115)).toInt32 = 115 := by decide
theorem c_bipush_116 : (Int8.ofInt (116)).toInt32 = 116 := by decide
theorem c_bipush_117 : (Int8.ofInt (117)).toInt32 = 117 := by decide
theorem c_bipush_118 : (Int8.ofInt (118)).toInt32 = 118 := by decide
theorem c_bipush_121 : (Int8.ofInt (121)).toInt32 = 121 := by decide
theorem c_bipush_122 : (Int8.ofInt (122)).toInt32 = 122 := by decide
theorem c_bipush_123 : (Int8.ofInt (123)).toInt32 = 123 := by decide
theorem c_bipush_125 : (Int8.ofInt (125)).toInt32 = 125 := by decide
theorem c_iconst_m8 : Int32.ofInt (-8) = -8 := by decide
theorem c_iconst_m4 : Int32.ofInt (-4) = -4 := by decide
theorem c_iconst_m1 : Int32.ofInt (-1) = -1 := by decide
theorem c_iconst_0 : Int32.ofInt (0) = 0 := by decide
theorem c_iconst_1 : Int32.ofInt (1) = 1 := by decide
theorem c_iconst_2 : Int32.ofInt (2) = 2 := by decide
theorem c_iconst_3 : Int32.ofInt (3) = 3 := by decide
theorem c_iconst_4 : Int32.ofInt (4) = 4 := by decide
theorem c_iconst_5 : Int32.ofInt (5) = 5 := by decide
theorem c_iconst_9 : Int32.ofInt (9) = 9 := by decide
theorem c_iconst_16 : Int32.ofInt (16) = 16 := by decide
theorem c_sipush_200 : (Int16.ofInt (200)).toInt32 = 200 := by decide
theorem c_sipush_255 : (Int16.ofInt (255)).toInt32 = 255 := by decide
theorem c_sipush_256 : (Int16.ofInt (256)).toInt32 = 256 := by decide
theorem c_sipush_300 : (Int16.ofInt (300)).toInt32 = 300 := by decide
theorem c_sipush_400 : (Int16.ofInt (400)).toInt32 = 400 := by decide
theorem c_sipush_500 : (Int16.ofInt (500)).toInt32 = 500 := by decide
theorem c_sipush_1000 : (Int16.ofInt (1000)).toInt32 = 1000 := by decide
theorem c_sipush_5000 : (Int16.ofInt (5000)).toInt32 = 5000 := by decide
end
section
section JBS
variable {x : JX} {y : MethodName} {cc : ByteArray} {nL : Nat} {rt : Option FieldType} {d ck cs : Nat} {Q : Option Value → JH → Prop} {pc pq : Nat} {ls : List (Option Value)} {st : List Value} {h : JH}
variable {y2 : MethodName} {cc2 : ByteArray} {nL2 : Nat} {rt2 : Option FieldType} {d2 k2 n2 : Nat} {Q2 : Option Value → JH → Prop}
/-- a contract that says all: the answer and the heap behind it -/
def JF (x : JX) (y : MethodName) (cc : ByteArray) (nL : Nat) (rt : Option FieldType) (d k n : Nat) (as : List Value) (h : JH) (r : Option Value) (h' : JH) : Prop := JM x y cc nL rt d k n as h (fun v g => v = r ∧ g = h')
theorem J_getA {idx ci k o N a : Nat} {D : String} {fin : Bool} (hd : decode cc pc = .ok (.getfield idx, 3)) (hp : pc + 3 = pq) (hF : JFld y.cls idx ci k D fin) (hD : jsort D = 2) (ho : (kd h)[o]? = some (ci, N)) (hr : gr h o k = some a) (kk : J x y cc nL rt d ck cs Q pq ls (.ref a :: st) h) : J x y cc nL rt d ck cs Q pc ls (.ref o :: st) h := J_getR hd hp hF hD ho hr kk
theorem J_virtF {idx ci o N : Nat} {as2 : List Value} {stk : List Value} {r : Option Value} {h' : JH} (hd : decode cc pc = .ok (.invokevirtual idx, 3)) (hp : pc + 3 = pq) (hM : JF x y2 cc2 nL2 rt2 d2 k2 n2 (.ref o :: as2) h r h') (hs : stk = as2.reverse ++ .ref o :: st) (hg : JTg y2 cc2 nL2 rt2 as2.length) (hl : JLk y.cls idx y2) (hv : Cond.instanceMethod y2 ∈ TBg ∧ Cond.selects y2.cls y2 y2 ∈ TBg) (ho : (kd h)[o]? = some (ci, N)) (hci : ci < 50 ∧ (vwCl[ci]?).map (fun r => r.1) = some y2.cls) (hdp : d2 + 1 ≤ d) (hk : k2 ≤ ck) (hn : n2 ≤ cs) (hst : (st.map fun v => v.category).sum ≤ 8)
    (kk : J x y cc nL rt d (ck - k2) (cs - n2) Q pq ls (r.toList ++ st) h') : J x y cc nL rt d ck cs Q pc ls stk h := J_virt hd hp hM hs hg hl hv ho hci hdp hk hn hst (fun v g q => by obtain ⟨rfl, rfl⟩ := q; exact kk)
theorem J_statF {idx : Nat} {as2 : List Value} {stk : List Value} {r : Option Value} {h' : JH} (hd : decode cc pc = .ok (.invokestatic idx, 3)) (hp : pc + 3 = pq) (hM : JF x y2 cc2 nL2 rt2 d2 k2 n2 as2 h r h') (hs : stk = as2.reverse ++ st) (hg : JTg y2 cc2 nL2 rt2 as2.length) (hl : JLk y.cls idx y2) (hv : Cond.static y2 ∈ TBg) (hdp : d2 + 1 ≤ d) (hk : k2 ≤ ck) (hn : n2 ≤ cs) (hst : (st.map fun v => v.category).sum ≤ 8)
    (kk : J x y cc nL rt d (ck - k2) (cs - n2) Q pq ls (r.toList ++ st) h') : J x y cc nL rt d ck cs Q pc ls stk h := J_stat hd hp hM hs hg hl hv hdp hk hn hst (fun v g q => by obtain ⟨rfl, rfl⟩ := q; exact kk)
theorem J_initF {idx ci o N : Nat} {as2 : List Value} {stk : List Value} {r : Option Value} {h' : JH} (hd : decode cc pc = .ok (.invokespecial idx, 3)) (hp : pc + 3 = pq) (hM : JF x y2 cc2 nL2 none d2 k2 n2 (.ref o :: as2) h r h') (hs : stk = as2.reverse ++ .ref o :: st) (hg : JTg y2 cc2 nL2 none as2.length) (hl : JLk y.cls idx y2) (hv : Cond.instanceMethod y2 ∈ TBg ∧ y2.name = "<init>") (ho : (kd h)[o]? = some (ci, N)) (hdp : d2 + 1 ≤ d) (hk : k2 ≤ ck) (hn : n2 ≤ cs) (hst : (st.map fun v => v.category).sum ≤ 8)
    (kk : J x y cc nL rt d (ck - k2) (cs - n2) Q pq ls (r.toList ++ st) h') : J x y cc nL rt d ck cs Q pc ls stk h := J_init hd hp hM hs hg hl hv ho hdp hk hn hst (fun v g q => by obtain ⟨rfl, rfl⟩ := q; exact kk)
end JBS
/-- a truth as the machine's int -/
def bi (b : Bool) : Int32 := if b then 1 else 0
theorem bi_0 (b : Bool) : bi b = 0 ↔ b = false := by cases b <;> decide
theorem bi_1 (b : Bool) : bi b = 1 ↔ b = true := by cases b <;> decide
theorem bi_or (b : Bool) : bi b = 0 ∨ bi b = 1 := by cases b <;> decide
theorem bi_and (b : Bool) : bi b &&& 1 = bi b := by cases b <;> decide
theorem bi_nar (b : Bool) : narrow .boolean (.int (bi b)) = .int (bi b) := by cases b <;> rfl
/-- the fixed cells: the class's own, then the reference's -/
abbrev KT : List (Nat × Nat) := [(8, 11), (6, 2), (50, 400), (50, 256), (1, 2), (2, 9), (50, 256), (3, 2), (5, 8), (50, 5), (52, 5), (53, 4), (54, 4), (4, 8), (50, 40), (50, 40), (50, 40), (50, 40), (4, 8), (50, 40), (50, 40), (50, 40), (50, 40), (4, 8), (50, 40), (50, 40), (50, 40), (50, 40), (4, 8), (50, 40), (50, 40), (50, 40), (50, 40), (4, 8), (50, 40), (50, 40), (50, 40), (50, 40), (9, 56), (50, 256), (50, 400), (50, 256), (52, 256), (50, 200), (50, 4), (50, 4), (52, 4), (50, 4), (50, 4), (50, 4), (50, 4), (50, 4), (50, 4), (51, 4), (50, 256), (50, 256), (50, 256), (50, 256), (50, 256), (52, 32), (52, 112), (50, 5), (50, 5), (50, 500), (50, 500), (50, 500), (50, 5), (50, 5), (50, 6), (50, 6), (50, 6), (50, 6), (50, 6), (50, 6), (50, 101), (50, 100)]
def Kin (h : JH) : Prop := ∃ r, kd h = KT ++ r
theorem Kin.at {h : JH} (hK : Kin h) {o : Nat} {q : Nat × Nat} (ho : KT[o]? = some q) : (kd h)[o]? = some q := by
  obtain ⟨r, hr⟩ := hK
  rw [hr, List.getElem?_append_left (List.getElem?_eq_some_iff.mp ho).1]
  exact ho
/-- where the reference's rows lie: by the slot -/
def mrt (k : Nat) : Option Nat := match k with
  | 0 => some 39 | 1 => some 40 | 6 => some 41 | 7 => some 42 | 9 => some 43
  | 13 => some 44 | 14 => some 45 | 15 => some 46 | 16 => some 47 | 17 => some 48 | 18 => some 49 | 19 => some 50 | 20 => some 51 | 21 => some 52 | 22 => some 53
  | 23 => some 54 | 24 => some 55 | 25 => some 56 | 26 => some 57 | 27 => some 58 | 28 => some 59 | 29 => some 60
  | 30 => some 61 | 31 => some 62 | 32 => some 63 | 33 => some 64 | 34 => some 65 | 35 => some 66 | 36 => some 67
  | 41 => some 68 | 42 => some 69 | 43 => some 70 | 44 => some 71 | 45 => some 72 | 46 => some 73 | 52 => some 74 | 54 => some 75
  | _ => none
/-- the reference's object holds its rows -/
def MR (h : JH) : Prop := ∀ k a, mrt k = some a → gr h 38 k = some a
/-- Lean's own order of int32, as the machine tests it -/
abbrev isin (v a b : Int32) : Bool := decide (a ≤ v) && decide (v ≤ b)
theorem i_nlt {a b : Int32} : ¬ a < b ↔ b ≤ a := Int32.not_lt
theorem i_nle {a b : Int32} : ¬ a ≤ b ↔ b < a := Int32.not_le
section JLP
variable {x : JX} {y : MethodName} {cc : ByteArray} {nL : Nat} {rt : Option FieldType} {d ck cs : Nat} {Q : Option Value → JH → Prop} {pc : Nat} {ls ls' : List (Option Value)} {st st' : List Value} {h h' : JH}
theorem J_eq (h1 : ls = ls') (h2 : st = st') (h3 : h = h') (k : J x y cc nL rt d ck cs Q pc ls' st' h') : J x y cc nL rt d ck cs Q pc ls st h := by subst h1; subst h2; subst h3; exact k
/-- a loop: a state of it, what holds, a measure that falls -/
theorem J_loop {σ : Type} (L : σ → List (Option Value)) (S : σ → List Value) (Hh : σ → JH) (I : σ → Prop) (m : σ → Nat) (s0 : σ) (h1 : ls = L s0) (h2 : st = S s0) (h3 : h = Hh s0) (h0 : I s0)
    (step : ∀ s, I s → (∀ s', I s' → m s' < m s → J x y cc nL rt d ck cs Q pc (L s') (S s') (Hh s')) → J x y cc nL rt d ck cs Q pc (L s) (S s) (Hh s)) : J x y cc nL rt d ck cs Q pc ls st h := by
  subst h1; subst h2; subst h3
  have key : ∀ n s, m s < n → I s → J x y cc nL rt d ck cs Q pc (L s) (S s) (Hh s) := by
    intro n
    induction n with
    | zero => intro s h; omega
    | succ n ih => intro s hs hI; exact step s hI (fun s' hI' hlt => ih s' (by omega) hI')
  exact key (m s0 + 1) s0 (by omega) h0
end JLP
-- rows of a cell filled up to n
def fillN (h : JH) (o n : Nat) (v : Int32) : JH := (fun a b => if a = o ∧ b < n then v else h.1 a b, h.2)
theorem fillN_0 (h : JH) (o : Nat) (v : Int32) : fillN h o 0 v = h := by
  unfold fillN
  simp
theorem fillN_s (h : JH) (o n : Nat) (v : Int32) : si (fillN h o n v) o n v = fillN h o (n + 1) v := by
  unfold fillN si
  congr 1
  funext a b
  by_cases ha : a = o
  · by_cases hb : b = n
    · simp [ha, hb]
    · have : (b < n + 1) = (b < n) := by simp; omega
      simp [ha, hb, this]
  · simp [ha]
theorem gi_fillN (h : JH) (o n : Nat) (v : Int32) (a b : Nat) : gi (fillN h o n v) a b = if a = o ∧ b < n then v else gi h a b := rfl
-- numbers
theorem ti_add {a b : Int32} (h1 : -2147483648 ≤ a.toInt + b.toInt) (h2 : a.toInt + b.toInt < 2147483648) : (a + b).toInt = a.toInt + b.toInt := by
  rw [Int32.toInt_add, Int.bmod_eq_of_le (by omega) (by omega)]
theorem ti_sub {a b : Int32} (h1 : -2147483648 ≤ a.toInt - b.toInt) (h2 : a.toInt - b.toInt < 2147483648) : (a - b).toInt = a.toInt - b.toInt := by
  rw [Int32.toInt_sub, Int.bmod_eq_of_le (by omega) (by omega)]
theorem ti_rng (a : Int32) : -2147483648 ≤ a.toInt ∧ a.toInt < 2147483648 := ⟨Int32.le_toInt a, Int32.toInt_lt a⟩
theorem ti_lt {a b : Int32} : a < b ↔ a.toInt < b.toInt := Int32.lt_iff_toInt_lt
theorem ti_le {a b : Int32} : a ≤ b ↔ a.toInt ≤ b.toInt := Int32.le_iff_toInt_le
theorem ti_eq {a b : Int32} : a = b ↔ a.toInt = b.toInt := Int32.toInt_inj.symm
theorem ix_eq {a : Int32} : ix a = a.toInt.toNat := rfl
theorem vin {i : Int32} {n : Nat} (h1 : 0 ≤ i.toInt) (h2 : i.toInt < n) : vp_in i n := vp_in_iff.mpr ⟨h1, h2⟩
theorem isin_t {v a b : Int32} : isin v a b = true ↔ a.toInt ≤ v.toInt ∧ v.toInt ≤ b.toInt := by simp [isin, ti_le]
theorem isin_f {v a b : Int32} : isin v a b = false ↔ ¬ (a.toInt ≤ v.toInt ∧ v.toInt ≤ b.toInt) := by rw [← isin_t]; cases isin v a b <;> simp
theorem bif_t {α : Type} {b : Bool} {u v : α} (h : b = true) : (if b then u else v) = u := by rw [h]; rfl
theorem bif_f {α : Type} {b : Bool} {u v : α} (h : b = false) : (if b then u else v) = v := by rw [h]; rfl
/-- a byte is put behind the reference's tape -/
def mAdd (h : JH) (b : Int32) : JH := si (si h 40 (ix (gi h 38 2)) b) 38 2 (gi h 38 2 + 1)
end
section
-- the reference: its small methods
section M1
variable {x : JX} {h : JH}
theorem j_X9_isIn {v a b : Int32} : JF x yX9_isIn cX9_isIn 3 (some .boolean) 0 0 0 [.int v, .int a, .int b] h (some (.int (bi (isin v a b)))) h := by
  refine JM_of [some (.int v), some (.int a), some (.int b)] (by decide) (Nat.le_of_ble_eq_true rfl) rfl ?_
  refine J_iload_n (pq := 1) dX9_isIn_0 rfl rfl (J_iload_n (pq := 2) dX9_isIn_1 rfl rfl (J_icmp_lt (pq := 5) (tgt := 14) dX9_isIn_2 rfl rfl (fun c => ?_) (fun c => ?_)))
  · refine J_iconst (pq := 15) dX9_isIn_14 rfl c_iconst_0 (J_iret dX9_isIn_15 rfl (by first | rfl | exact bi_nar _) ?_)
    refine ⟨congrArg (fun z => some (Value.int z)) ?_, rfl⟩; simp_all [bi, ti_lt, ti_le]; try omega
  · refine J_iload_n (pq := 6) dX9_isIn_5 rfl rfl (J_iload_n (pq := 7) dX9_isIn_6 rfl rfl (J_icmp_gt (pq := 10) (tgt := 14) dX9_isIn_7 rfl rfl (fun c => ?_) (fun c => ?_)))
    · refine J_iconst (pq := 15) dX9_isIn_14 rfl c_iconst_0 (J_iret dX9_isIn_15 rfl (by first | rfl | exact bi_nar _) ?_)
      refine ⟨congrArg (fun z => some (Value.int z)) ?_, rfl⟩; simp_all [bi, ti_lt, ti_le]; try omega
    · refine J_iconst (pq := 11) dX9_isIn_10 rfl c_iconst_1 (J_goto (tgt := 15) dX9_isIn_11 rfl (J_iret dX9_isIn_15 rfl (by first | rfl | exact bi_nar _) ?_))
      refine ⟨congrArg (fun z => some (Value.int z)) ?_, rfl⟩; simp_all [bi, ti_lt, ti_le]; try omega
theorem j_X9_tape {i : Int32} (hK : Kin h) (hR : MR h) (ht : (gi h 38 2).toInt ≤ 400) (ht0 : 0 ≤ (gi h 38 2).toInt) : JF x yX9_tape cX9_tape 2 (some .int) 1 0 0 [.ref 38, .int i] h (some (.int (if isin i 0 (gi h 38 2 - 1) then gi h 40 (ix i) else -1))) h := by
  refine JM_of [some (.ref 38), some (.int i)] (by decide) (Nat.le_of_ble_eq_true rfl) rfl ?_
  have hs : (gi h 38 2 - 1).toInt = (gi h 38 2).toInt - 1 := ti_sub (by simp; omega) (by simp; omega)
  refine J_iload_n (pq := 1) dX9_tape_0 rfl rfl (J_iconst (pq := 2) dX9_tape_1 rfl c_iconst_0 (J_aload_n (pq := 3) dX9_tape_2 rfl rfl (J_getI (pq := 6) dX9_tape_3 rfl f_X9_130 jsI (hK.at rfl) (J_iconst (pq := 7) dX9_tape_6 rfl c_iconst_1 (J_isub (pq := 8) dX9_tape_7 rfl (J_statF (pq := 11) dX9_tape_8 rfl (j_X9_isIn) rfl tg_X9_isIn l_X9_137 st_X9_isIn (Nat.le_of_ble_eq_true rfl) (Nat.zero_le _) (Nat.zero_le _) (Nat.le_of_ble_eq_true rfl) (J_if_eq (pq := 14) (tgt := 23) dX9_tape_11 rfl rfl (fun c => ?_) (fun c => ?_))))))))
  · rw [bi_0] at c
    refine J_iconst (pq := 24) dX9_tape_23 rfl c_iconst_m1 (J_iret dX9_tape_24 rfl rfl ?_)
    exact ⟨by rw [bif_f c], rfl⟩
  · rw [bi_0, Bool.not_eq_false] at c
    have hb : vp_in i 400 := by rw [isin_t, hs] at c; exact vin (by simpa using c.1) (by omega)
    refine J_aload_n (pq := 15) dX9_tape_14 rfl rfl (J_getA (pq := 18) dX9_tape_15 rfl f_X9_13 (by decide +kernel) (hK.at rfl) (hR _ _ rfl) (J_iload_n (pq := 19) dX9_tape_18 rfl rfl (J_iald (pq := 20) dX9_tape_19 rfl (hK.at rfl) (by assumption) (J_goto (tgt := 24) dX9_tape_20 rfl (J_iret dX9_tape_24 rfl rfl ?_)))))
    exact ⟨by rw [bif_t c], rfl⟩
theorem j_X9_image {i : Int32} (hK : Kin h) (hR : MR h) : JF x yX9_image cX9_image 2 (some .int) 1 0 0 [.ref 38, .int i] h (some (.int (if isin i 0 255 then gi h 39 (ix i) else -1))) h := by
  refine JM_of [some (.ref 38), some (.int i)] (by decide) (Nat.le_of_ble_eq_true rfl) rfl ?_
  refine J_iload_n (pq := 1) dX9_image_0 rfl rfl (J_iconst (pq := 2) dX9_image_1 rfl c_iconst_0 (J_sipush (pq := 5) dX9_image_2 rfl c_sipush_255 (J_statF (pq := 8) dX9_image_5 rfl (j_X9_isIn) rfl tg_X9_isIn l_X9_137 st_X9_isIn (Nat.le_of_ble_eq_true rfl) (Nat.zero_le _) (Nat.zero_le _) (Nat.le_of_ble_eq_true rfl) (J_if_eq (pq := 11) (tgt := 20) dX9_image_8 rfl rfl (fun c => ?_) (fun c => ?_)))))
  · rw [bi_0] at c
    refine J_iconst (pq := 21) dX9_image_20 rfl c_iconst_m1 (J_iret dX9_image_21 rfl rfl ?_)
    exact ⟨by rw [bif_f c], rfl⟩
  · rw [bi_0, Bool.not_eq_false] at c
    have hb : vp_in i 256 := by rw [isin_t] at c; exact vin (by simpa using c.1) (by have := c.2; simp at this; omega)
    refine J_aload_n (pq := 12) dX9_image_11 rfl rfl (J_getA (pq := 15) dX9_image_12 rfl f_X9_7 (by decide +kernel) (hK.at rfl) (hR _ _ rfl) (J_iload_n (pq := 16) dX9_image_15 rfl rfl (J_iald (pq := 17) dX9_image_16 rfl (hK.at rfl) (by assumption) (J_goto (tgt := 21) dX9_image_17 rfl (J_iret dX9_image_21 rfl rfl ?_)))))
    exact ⟨by rw [bif_t c], rfl⟩
theorem j_X9_end {i : Int32} (hK : Kin h) (hR : MR h) : JF x yX9_end cX9_end 2 (some .int) 1 0 0 [.ref 38, .int i] h (some (.int (if isin i 0 (gi h 38 2) then i else -1))) (if isin i 0 (gi h 38 2) then si h 38 2 i else h) := by
  refine JM_of [some (.ref 38), some (.int i)] (by decide) (Nat.le_of_ble_eq_true rfl) rfl ?_
  refine J_iload_n (pq := 1) dX9_end_0 rfl rfl (J_iconst (pq := 2) dX9_end_1 rfl c_iconst_0 (J_aload_n (pq := 3) dX9_end_2 rfl rfl (J_getI (pq := 6) dX9_end_3 rfl f_X9_130 jsI (hK.at rfl) (J_statF (pq := 9) dX9_end_6 rfl (j_X9_isIn) rfl tg_X9_isIn l_X9_137 st_X9_isIn (Nat.le_of_ble_eq_true rfl) (Nat.zero_le _) (Nat.zero_le _) (Nat.le_of_ble_eq_true rfl) (J_if_ne (pq := 12) (tgt := 14) dX9_end_9 rfl rfl (fun c => ?_) (fun c => ?_))))))
  · rw [bi_0, Bool.not_eq_false] at c
    refine J_aload_n (pq := 15) dX9_end_14 rfl rfl (J_iload_n (pq := 16) dX9_end_15 rfl rfl (J_putI (pq := 19) dX9_end_16 rfl f_X9_130 (Or.inl rfl) (hK.at rfl) (J_iload_n (pq := 20) dX9_end_19 rfl rfl (J_iret dX9_end_20 rfl rfl ?_))))
    exact ⟨by rw [bif_t c], by rw [bif_t c]⟩
  · rw [bi_0] at c
    refine J_iconst (pq := 13) dX9_end_12 rfl c_iconst_m1 (J_iret dX9_end_13 rfl rfl ?_)
    exact ⟨by rw [bif_f c], by rw [bif_f c]⟩
theorem j_X9_fill {v : Int32} (hK : Kin h) (hR : MR h) : JF x yX9_fill cX9_fill 3 (some .boolean) 1 0 0 [.ref 38, .int v] h (some (.int (bi (isin v 0 255)))) (if isin v 0 255 then fillN h 39 256 v else h) := by
  refine JM_of [some (.ref 38), some (.int v), none] (by decide) (Nat.le_of_ble_eq_true rfl) rfl ?_
  refine J_iload_n (pq := 1) dX9_fill_0 rfl rfl (J_iconst (pq := 2) dX9_fill_1 rfl c_iconst_0 (J_sipush (pq := 5) dX9_fill_2 rfl c_sipush_255 (J_statF (pq := 8) dX9_fill_5 rfl (j_X9_isIn) rfl tg_X9_isIn l_X9_137 st_X9_isIn (Nat.le_of_ble_eq_true rfl) (Nat.zero_le _) (Nat.zero_le _) (Nat.le_of_ble_eq_true rfl) (J_if_ne (pq := 11) (tgt := 13) dX9_fill_8 rfl rfl (fun c => ?_) (fun c => ?_)))))
  · rw [bi_0, Bool.not_eq_false] at c
    have c8 := c
    refine J_iconst (pq := 14) dX9_fill_13 rfl c_iconst_0 (J_istore_n (pq := 15) dX9_fill_14 rfl (Nat.le_of_ble_eq_true rfl) (Nat.le_of_ble_eq_true rfl) rfl (?_))
    refine J_loop (σ := Nat) (fun k => [some (.ref 38), some (.int v), some (.int (nI k))]) (fun _ => []) (fun k => fillN h 39 k v) (fun k => k ≤ 256) (fun k => 256 - k) 0 rfl rfl (fillN_0 h 39 v).symm (by omega) (fun k hk ih => ?_)
    refine J_iload_n (pq := 16) dX9_fill_15 rfl rfl (J_sipush (pq := 19) dX9_fill_16 rfl c_sipush_256 (J_icmp_ge (pq := 22) (tgt := 35) dX9_fill_19 rfl rfl (fun c => ?_) (fun c => ?_)))
    · refine J_iconst (pq := 36) dX9_fill_35 rfl c_iconst_1 (J_iret dX9_fill_36 rfl (by first | rfl | exact bi_nar _) ?_)
      have : k = 256 := by
        have h256 : (256 : Int32) = nI 256 := rfl
        rw [h256, nI_leI (by omega) (by omega)] at c; omega
      subst this
      exact ⟨by rw [c8]; rfl, by rw [bif_t c8]⟩
    · have hlt : k < 256 := by
        have h256 : (256 : Int32) = nI 256 := rfl
        rw [h256, nI_leI (by omega) (by omega)] at c; omega
      have hb : vp_in (nI k) 256 := vp_in_nI hlt (by omega)
      refine J_aload_n (pq := 23) dX9_fill_22 rfl rfl (J_getA (pq := 26) dX9_fill_23 rfl f_X9_7 (by decide +kernel) (hK.at rfl) (hR _ _ rfl) (J_iload_n (pq := 27) dX9_fill_26 rfl rfl (J_iload_n (pq := 28) dX9_fill_27 rfl rfl (J_iast (pq := 29) dX9_fill_28 rfl (hK.at rfl) (by assumption) (J_iinc (pq := 32) dX9_fill_29 rfl c_iconst_1 rfl (Nat.le_of_ble_eq_true rfl) rfl (J_goto (tgt := 15) dX9_fill_32 rfl (?_)))))))
      refine J_eq ?_ rfl ?_ (ih (k + 1) (by omega) (by omega))
      · simp [nI_1]
      · rw [← fillN_s, show ix (nI k) = k from nI_clamp (by omega)]
  · rw [bi_0] at c
    refine J_iconst (pq := 12) dX9_fill_11 rfl c_iconst_0 (J_iret dX9_fill_12 rfl (by first | rfl | exact bi_nar _) ?_)
    exact ⟨by rw [c]; rfl, by rw [bif_f c]⟩
end M1
end
