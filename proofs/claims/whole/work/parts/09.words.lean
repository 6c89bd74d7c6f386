theorem f_X8_10 : JFld RX8 10 8 0 "LChipBurner$Tape;" true := ⟨by decide, (RX8, TX8, 11), rfl, by decide, rfl, rfl, Or.inl (tb_mem 251 (by decide +kernel) rfl)⟩
theorem f_X8_16 : JFld RX8 16 8 1 "[I" true := ⟨by decide, (RX8, TX8, 11), rfl, by decide, rfl, rfl, Or.inl (tb_mem 252 (by decide +kernel) rfl)⟩
theorem f_X8_23 : JFld RX8 23 8 2 "LChipBurner$Finding;" true := ⟨by decide, (RX8, TX8, 11), rfl, by decide, rfl, rfl, Or.inl (tb_mem 253 (by decide +kernel) rfl)⟩
theorem f_X8_32 : JFld RX8 32 8 3 "LChipBurner$FormReader;" true := ⟨by decide, (RX8, TX8, 11), rfl, by decide, rfl, rfl, Or.inl (tb_mem 254 (by decide +kernel) rfl)⟩
theorem f_X8_41 : JFld RX8 41 8 4 "LChipBurner$FormWriter;" true := ⟨by decide, (RX8, TX8, 11), rfl, by decide, rfl, rfl, Or.inl (tb_mem 255 (by decide +kernel) rfl)⟩
theorem f_X8_48 : JFld RX8 48 8 5 "LChipBurner$RecipeReader;" true := ⟨by decide, (RX8, TX8, 11), rfl, by decide, rfl, rfl, Or.inl (tb_mem 256 (by decide +kernel) rfl)⟩
theorem f_X8_54 : JFld RX8 54 8 6 "[LChipBurner$Chip;" true := ⟨by decide, (RX8, TX8, 11), rfl, by decide, rfl, rfl, Or.inl (tb_mem 257 (by decide +kernel) rfl)⟩
theorem f_X8_60 : JFld RX8 60 8 8 "[LChipBurner$Recipe;" true := ⟨by decide, (RX8, TX8, 11), rfl, by decide, rfl, rfl, Or.inl (tb_mem 259 (by decide +kernel) rfl)⟩
theorem f_X8_65 : JFld RX8 65 8 9 "LChipBurner$Recipe;" false := ⟨by decide, (RX8, TX8, 11), rfl, by decide, rfl, rfl, Or.inl (tb_mem 260 (by decide +kernel) rfl)⟩
theorem f_X8_97 : JFld RX8 97 8 10 "I" false := ⟨by decide, (RX8, TX8, 11), rfl, by decide, rfl, rfl, Or.inl (tb_mem 261 (by decide +kernel) rfl)⟩
theorem f_X8_107 : JFld RX8 107 1 0 "I" false := ⟨by decide, (RX1, TX1, 2), rfl, by decide, rfl, rfl, Or.inr ⟨"ChipBurner", List.mem_of_getElem? (i := 122) (by decide +kernel)⟩⟩
theorem f_X8_110 : JFld RX8 110 1 1 "I" false := ⟨by decide, (RX1, TX1, 2), rfl, by decide, rfl, rfl, Or.inr ⟨"ChipBurner", List.mem_of_getElem? (i := 124) (by decide +kernel)⟩⟩
theorem f_X8_128 : JFld RX8 128 8 7 "I" false := ⟨by decide, (RX8, TX8, 11), rfl, by decide, rfl, rfl, Or.inl (tb_mem 258 (by decide +kernel) rfl)⟩
theorem f_X8_157 : JFld RX8 157 0 2 "Z" true := ⟨by decide, (RX0, TX0, 17), rfl, by decide, rfl, rfl, Or.inr ⟨"ChipBurner", List.mem_of_getElem? (i := 467) (by decide +kernel)⟩⟩
theorem f_X8_164 : JFld RX8 164 0 15 "I" false := ⟨by decide, (RX0, TX0, 17), rfl, by decide, rfl, rfl, Or.inr ⟨"ChipBurner", List.mem_of_getElem? (i := 483) (by decide +kernel)⟩⟩
theorem f_X8_176 : JFld RX8 176 4 4 "I" false := ⟨by decide, (RX4, TX4, 8), rfl, by decide, rfl, rfl, Or.inr ⟨"ChipBurner", List.mem_of_getElem? (i := 224) (by decide +kernel)⟩⟩
theorem f_X8_183 : JFld RX8 183 4 5 "I" false := ⟨by decide, (RX4, TX4, 8), rfl, by decide, rfl, rfl, Or.inr ⟨"ChipBurner", List.mem_of_getElem? (i := 226) (by decide +kernel)⟩⟩
theorem f_X8_186 : JFld RX8 186 4 6 "I" false := ⟨by decide, (RX4, TX4, 8), rfl, by decide, rfl, rfl, Or.inr ⟨"ChipBurner", List.mem_of_getElem? (i := 228) (by decide +kernel)⟩⟩
theorem f_X8_189 : JFld RX8 189 4 7 "I" false := ⟨by decide, (RX4, TX4, 8), rfl, by decide, rfl, rfl, Or.inr ⟨"ChipBurner", List.mem_of_getElem? (i := 230) (by decide +kernel)⟩⟩
theorem f_X8_209 : JFld RX8 209 7 2 "I" false := ⟨by decide, (RX7, TX7, 7), rfl, by decide, rfl, rfl, Or.inr ⟨"ChipBurner", List.mem_of_getElem? (i := 839) (by decide +kernel)⟩⟩
theorem f_X8_232 : JFld RX8 232 0 1 "I" true := ⟨by decide, (RX0, TX0, 17), rfl, by decide, rfl, rfl, Or.inr ⟨"ChipBurner", List.mem_of_getElem? (i := 465) (by decide +kernel)⟩⟩
theorem f_X0_9 : JFld RX0 9 0 13 "[Z" true := ⟨by decide, (RX0, TX0, 17), rfl, by decide, rfl, rfl, Or.inl (tb_mem 480 (by decide +kernel) rfl)⟩
theorem f_X0_15 : JFld RX0 15 0 14 "[Z" true := ⟨by decide, (RX0, TX0, 17), rfl, by decide, rfl, rfl, Or.inl (tb_mem 481 (by decide +kernel) rfl)⟩
theorem f_X0_22 : JFld RX0 22 0 0 "I" true := ⟨by decide, (RX0, TX0, 17), rfl, by decide, rfl, rfl, Or.inl (tb_mem 463 (by decide +kernel) rfl)⟩
theorem f_X0_26 : JFld RX0 26 0 1 "I" true := ⟨by decide, (RX0, TX0, 17), rfl, by decide, rfl, rfl, Or.inl (tb_mem 464 (by decide +kernel) rfl)⟩
theorem f_X0_29 : JFld RX0 29 0 2 "Z" true := ⟨by decide, (RX0, TX0, 17), rfl, by decide, rfl, rfl, Or.inl (tb_mem 466 (by decide +kernel) rfl)⟩
theorem f_X0_33 : JFld RX0 33 0 8 "[I" true := ⟨by decide, (RX0, TX0, 17), rfl, by decide, rfl, rfl, Or.inl (tb_mem 475 (by decide +kernel) rfl)⟩
theorem f_X0_37 : JFld RX0 37 0 9 "[I" true := ⟨by decide, (RX0, TX0, 17), rfl, by decide, rfl, rfl, Or.inl (tb_mem 476 (by decide +kernel) rfl)⟩
theorem f_X0_40 : JFld RX0 40 0 10 "[I" true := ⟨by decide, (RX0, TX0, 17), rfl, by decide, rfl, rfl, Or.inl (tb_mem 477 (by decide +kernel) rfl)⟩
theorem f_X0_43 : JFld RX0 43 0 11 "[I" true := ⟨by decide, (RX0, TX0, 17), rfl, by decide, rfl, rfl, Or.inl (tb_mem 478 (by decide +kernel) rfl)⟩
theorem f_X0_46 : JFld RX0 46 0 12 "[I" true := ⟨by decide, (RX0, TX0, 17), rfl, by decide, rfl, rfl, Or.inl (tb_mem 479 (by decide +kernel) rfl)⟩
theorem f_X0_55 : JFld RX0 55 0 3 "I" false := ⟨by decide, (RX0, TX0, 17), rfl, by decide, rfl, rfl, Or.inl (tb_mem 468 (by decide +kernel) rfl)⟩
theorem f_X0_58 : JFld RX0 58 0 4 "I" false := ⟨by decide, (RX0, TX0, 17), rfl, by decide, rfl, rfl, Or.inl (tb_mem 469 (by decide +kernel) rfl)⟩
theorem f_X0_61 : JFld RX0 61 0 5 "I" false := ⟨by decide, (RX0, TX0, 17), rfl, by decide, rfl, rfl, Or.inl (tb_mem 471 (by decide +kernel) rfl)⟩
theorem f_X0_64 : JFld RX0 64 0 6 "I" false := ⟨by decide, (RX0, TX0, 17), rfl, by decide, rfl, rfl, Or.inl (tb_mem 473 (by decide +kernel) rfl)⟩
theorem f_X0_67 : JFld RX0 67 0 7 "I" false := ⟨by decide, (RX0, TX0, 17), rfl, by decide, rfl, rfl, Or.inl (tb_mem 474 (by decide +kernel) rfl)⟩
theorem f_X0_81 : JFld RX0 81 0 15 "I" false := ⟨by decide, (RX0, TX0, 17), rfl, by decide, rfl, rfl, Or.inl (tb_mem 482 (by decide +kernel) rfl)⟩
theorem f_X0_90 : JFld RX0 90 0 16 "I" false := ⟨by decide, (RX0, TX0, 17), rfl, by decide, rfl, rfl, Or.inl (tb_mem 484 (by decide +kernel) rfl)⟩
theorem f_X1_9 : JFld RX1 9 1 0 "I" false := ⟨by decide, (RX1, TX1, 2), rfl, by decide, rfl, rfl, Or.inl (tb_mem 121 (by decide +kernel) rfl)⟩
theorem f_X1_15 : JFld RX1 15 1 1 "I" false := ⟨by decide, (RX1, TX1, 2), rfl, by decide, rfl, rfl, Or.inl (tb_mem 123 (by decide +kernel) rfl)⟩
theorem f_X2_9 : JFld RX2 9 2 2 "[I" true := ⟨by decide, (RX2, TX2, 9), rfl, by decide, rfl, rfl, Or.inl (tb_mem 138 (by decide +kernel) rfl)⟩
theorem f_X2_15 : JFld RX2 15 2 0 "LChipBurner$Tape;" true := ⟨by decide, (RX2, TX2, 9), rfl, by decide, rfl, rfl, Or.inl (tb_mem 136 (by decide +kernel) rfl)⟩
theorem f_X2_19 : JFld RX2 19 2 1 "LChipBurner$Finding;" true := ⟨by decide, (RX2, TX2, 9), rfl, by decide, rfl, rfl, Or.inl (tb_mem 137 (by decide +kernel) rfl)⟩
theorem f_X2_40 : JFld RX2 40 2 3 "I" false := ⟨by decide, (RX2, TX2, 9), rfl, by decide, rfl, rfl, Or.inl (tb_mem 139 (by decide +kernel) rfl)⟩
theorem f_X2_72 : JFld RX2 72 2 4 "Z" false := ⟨by decide, (RX2, TX2, 9), rfl, by decide, rfl, rfl, Or.inl (tb_mem 140 (by decide +kernel) rfl)⟩
theorem f_X2_93 : JFld RX2 93 2 5 "I" false := ⟨by decide, (RX2, TX2, 9), rfl, by decide, rfl, rfl, Or.inl (tb_mem 141 (by decide +kernel) rfl)⟩
theorem f_X2_99 : JFld RX2 99 2 8 "I" false := ⟨by decide, (RX2, TX2, 9), rfl, by decide, rfl, rfl, Or.inl (tb_mem 144 (by decide +kernel) rfl)⟩
theorem f_X2_102 : JFld RX2 102 2 6 "I" false := ⟨by decide, (RX2, TX2, 9), rfl, by decide, rfl, rfl, Or.inl (tb_mem 142 (by decide +kernel) rfl)⟩
theorem f_X2_105 : JFld RX2 105 2 7 "I" false := ⟨by decide, (RX2, TX2, 9), rfl, by decide, rfl, rfl, Or.inl (tb_mem 143 (by decide +kernel) rfl)⟩
theorem f_X3_9 : JFld RX3 9 3 0 "LChipBurner$Tape;" true := ⟨by decide, (RX3, TX3, 2), rfl, by decide, rfl, rfl, Or.inl (tb_mem 170 (by decide +kernel) rfl)⟩
theorem f_X3_38 : JFld RX3 38 3 1 "I" false := ⟨by decide, (RX3, TX3, 2), rfl, by decide, rfl, rfl, Or.inl (tb_mem 171 (by decide +kernel) rfl)⟩
theorem f_X4_9 : JFld RX4 9 4 0 "[I" true := ⟨by decide, (RX4, TX4, 8), rfl, by decide, rfl, rfl, Or.inl (tb_mem 218 (by decide +kernel) rfl)⟩
theorem f_X4_15 : JFld RX4 15 4 1 "[I" true := ⟨by decide, (RX4, TX4, 8), rfl, by decide, rfl, rfl, Or.inl (tb_mem 219 (by decide +kernel) rfl)⟩
theorem f_X4_18 : JFld RX4 18 4 2 "[I" true := ⟨by decide, (RX4, TX4, 8), rfl, by decide, rfl, rfl, Or.inl (tb_mem 220 (by decide +kernel) rfl)⟩
theorem f_X4_21 : JFld RX4 21 4 3 "[I" true := ⟨by decide, (RX4, TX4, 8), rfl, by decide, rfl, rfl, Or.inl (tb_mem 221 (by decide +kernel) rfl)⟩
theorem f_X4_24 : JFld RX4 24 4 5 "I" false := ⟨by decide, (RX4, TX4, 8), rfl, by decide, rfl, rfl, Or.inl (tb_mem 225 (by decide +kernel) rfl)⟩
theorem f_X4_28 : JFld RX4 28 4 4 "I" false := ⟨by decide, (RX4, TX4, 8), rfl, by decide, rfl, rfl, Or.inl (tb_mem 222 (by decide +kernel) rfl)⟩
theorem f_X4_55 : JFld RX4 55 4 6 "I" false := ⟨by decide, (RX4, TX4, 8), rfl, by decide, rfl, rfl, Or.inl (tb_mem 227 (by decide +kernel) rfl)⟩
theorem f_X4_58 : JFld RX4 58 4 7 "I" false := ⟨by decide, (RX4, TX4, 8), rfl, by decide, rfl, rfl, Or.inl (tb_mem 229 (by decide +kernel) rfl)⟩
theorem f_X4_61 : JFld RX4 61 0 4 "I" false := ⟨by decide, (RX0, TX0, 17), rfl, by decide, rfl, rfl, Or.inr ⟨"ChipBurner", List.mem_of_getElem? (i := 470) (by decide +kernel)⟩⟩
theorem f_X4_65 : JFld RX4 65 0 5 "I" false := ⟨by decide, (RX0, TX0, 17), rfl, by decide, rfl, rfl, Or.inr ⟨"ChipBurner", List.mem_of_getElem? (i := 472) (by decide +kernel)⟩⟩
theorem f_X5_9 : JFld RX5 9 5 5 "[I" true := ⟨by decide, (RX5, TX5, 8), rfl, by decide, rfl, rfl, Or.inl (tb_mem 188 (by decide +kernel) rfl)⟩
theorem f_X5_15 : JFld RX5 15 5 6 "[Z" true := ⟨by decide, (RX5, TX5, 8), rfl, by decide, rfl, rfl, Or.inl (tb_mem 189 (by decide +kernel) rfl)⟩
theorem f_X5_19 : JFld RX5 19 5 0 "LChipBurner$Tape;" true := ⟨by decide, (RX5, TX5, 8), rfl, by decide, rfl, rfl, Or.inl (tb_mem 183 (by decide +kernel) rfl)⟩
theorem f_X5_23 : JFld RX5 23 5 1 "LChipBurner$Finding;" true := ⟨by decide, (RX5, TX5, 8), rfl, by decide, rfl, rfl, Or.inl (tb_mem 184 (by decide +kernel) rfl)⟩
theorem f_X5_47 : JFld RX5 47 5 7 "I" false := ⟨by decide, (RX5, TX5, 8), rfl, by decide, rfl, rfl, Or.inl (tb_mem 190 (by decide +kernel) rfl)⟩
theorem f_X5_51 : JFld RX5 51 5 4 "I" false := ⟨by decide, (RX5, TX5, 8), rfl, by decide, rfl, rfl, Or.inl (tb_mem 187 (by decide +kernel) rfl)⟩
theorem f_X5_57 : JFld RX5 57 5 2 "I" false := ⟨by decide, (RX5, TX5, 8), rfl, by decide, rfl, rfl, Or.inl (tb_mem 185 (by decide +kernel) rfl)⟩
theorem f_X5_122 : JFld RX5 122 5 3 "I" false := ⟨by decide, (RX5, TX5, 8), rfl, by decide, rfl, rfl, Or.inl (tb_mem 186 (by decide +kernel) rfl)⟩
theorem f_X6_9 : JFld RX6 9 6 0 "[I" true := ⟨by decide, (RX6, TX6, 2), rfl, by decide, rfl, rfl, Or.inl (tb_mem 107 (by decide +kernel) rfl)⟩
theorem f_X6_15 : JFld RX6 15 6 1 "I" false := ⟨by decide, (RX6, TX6, 2), rfl, by decide, rfl, rfl, Or.inl (tb_mem 108 (by decide +kernel) rfl)⟩
theorem f_X7_9 : JFld RX7 9 7 0 "LChipBurner$Chip;" true := ⟨by decide, (RX7, TX7, 7), rfl, by decide, rfl, rfl, Or.inl (tb_mem 836 (by decide +kernel) rfl)⟩
theorem f_X7_15 : JFld RX7 15 7 1 "LChipBurner$Recipe;" true := ⟨by decide, (RX7, TX7, 7), rfl, by decide, rfl, rfl, Or.inl (tb_mem 837 (by decide +kernel) rfl)⟩
theorem f_X7_19 : JFld RX7 19 7 2 "I" false := ⟨by decide, (RX7, TX7, 7), rfl, by decide, rfl, rfl, Or.inl (tb_mem 838 (by decide +kernel) rfl)⟩
theorem f_X7_23 : JFld RX7 23 7 3 "I" false := ⟨by decide, (RX7, TX7, 7), rfl, by decide, rfl, rfl, Or.inl (tb_mem 840 (by decide +kernel) rfl)⟩
theorem f_X7_26 : JFld RX7 26 7 4 "I" false := ⟨by decide, (RX7, TX7, 7), rfl, by decide, rfl, rfl, Or.inl (tb_mem 841 (by decide +kernel) rfl)⟩
theorem f_X7_29 : JFld RX7 29 7 5 "I" false := ⟨by decide, (RX7, TX7, 7), rfl, by decide, rfl, rfl, Or.inl (tb_mem 842 (by decide +kernel) rfl)⟩
theorem f_X7_32 : JFld RX7 32 7 6 "Z" false := ⟨by decide, (RX7, TX7, 7), rfl, by decide, rfl, rfl, Or.inl (tb_mem 843 (by decide +kernel) rfl)⟩
theorem f_X7_36 : JFld RX7 36 4 4 "I" false := ⟨by decide, (RX4, TX4, 8), rfl, by decide, rfl, rfl, Or.inr ⟨"ChipBurner", List.mem_of_getElem? (i := 223) (by decide +kernel)⟩⟩
theorem f_X9_7 : JFld RX9 7 9 0 "[I" true := ⟨by decide, (RX9, TX9, 56), rfl, by decide, rfl, rfl, Or.inl (tb_mem 911 (by decide +kernel) rfl)⟩
theorem f_X9_13 : JFld RX9 13 9 1 "[I" true := ⟨by decide, (RX9, TX9, 56), rfl, by decide, rfl, rfl, Or.inl (tb_mem 912 (by decide +kernel) rfl)⟩
theorem f_X9_16 : JFld RX9 16 9 3 "I" false := ⟨by decide, (RX9, TX9, 56), rfl, by decide, rfl, rfl, Or.inl (tb_mem 914 (by decide +kernel) rfl)⟩
theorem f_X9_20 : JFld RX9 20 9 4 "I" false := ⟨by decide, (RX9, TX9, 56), rfl, by decide, rfl, rfl, Or.inl (tb_mem 915 (by decide +kernel) rfl)⟩
theorem f_X9_23 : JFld RX9 23 9 6 "[I" true := ⟨by decide, (RX9, TX9, 56), rfl, by decide, rfl, rfl, Or.inl (tb_mem 917 (by decide +kernel) rfl)⟩
theorem f_X9_26 : JFld RX9 26 9 7 "[Z" true := ⟨by decide, (RX9, TX9, 56), rfl, by decide, rfl, rfl, Or.inl (tb_mem 918 (by decide +kernel) rfl)⟩
theorem f_X9_30 : JFld RX9 30 9 9 "[I" true := ⟨by decide, (RX9, TX9, 56), rfl, by decide, rfl, rfl, Or.inl (tb_mem 920 (by decide +kernel) rfl)⟩
theorem f_X9_33 : JFld RX9 33 9 13 "[I" true := ⟨by decide, (RX9, TX9, 56), rfl, by decide, rfl, rfl, Or.inl (tb_mem 924 (by decide +kernel) rfl)⟩
theorem f_X9_36 : JFld RX9 36 9 14 "[I" true := ⟨by decide, (RX9, TX9, 56), rfl, by decide, rfl, rfl, Or.inl (tb_mem 925 (by decide +kernel) rfl)⟩
theorem f_X9_39 : JFld RX9 39 9 15 "[Z" true := ⟨by decide, (RX9, TX9, 56), rfl, by decide, rfl, rfl, Or.inl (tb_mem 926 (by decide +kernel) rfl)⟩
theorem f_X9_42 : JFld RX9 42 9 16 "[I" true := ⟨by decide, (RX9, TX9, 56), rfl, by decide, rfl, rfl, Or.inl (tb_mem 927 (by decide +kernel) rfl)⟩
theorem f_X9_45 : JFld RX9 45 9 17 "[I" true := ⟨by decide, (RX9, TX9, 56), rfl, by decide, rfl, rfl, Or.inl (tb_mem 928 (by decide +kernel) rfl)⟩
theorem f_X9_48 : JFld RX9 48 9 18 "[I" true := ⟨by decide, (RX9, TX9, 56), rfl, by decide, rfl, rfl, Or.inl (tb_mem 929 (by decide +kernel) rfl)⟩
theorem f_X9_51 : JFld RX9 51 9 19 "[I" true := ⟨by decide, (RX9, TX9, 56), rfl, by decide, rfl, rfl, Or.inl (tb_mem 930 (by decide +kernel) rfl)⟩
theorem f_X9_54 : JFld RX9 54 9 20 "[I" true := ⟨by decide, (RX9, TX9, 56), rfl, by decide, rfl, rfl, Or.inl (tb_mem 931 (by decide +kernel) rfl)⟩
theorem f_X9_57 : JFld RX9 57 9 21 "[I" true := ⟨by decide, (RX9, TX9, 56), rfl, by decide, rfl, rfl, Or.inl (tb_mem 932 (by decide +kernel) rfl)⟩
theorem f_X9_60 : JFld RX9 60 9 22 "[J" true := ⟨by decide, (RX9, TX9, 56), rfl, by decide, rfl, rfl, Or.inl (tb_mem 933 (by decide +kernel) rfl)⟩
theorem f_X9_64 : JFld RX9 64 9 23 "[I" true := ⟨by decide, (RX9, TX9, 56), rfl, by decide, rfl, rfl, Or.inl (tb_mem 934 (by decide +kernel) rfl)⟩
theorem f_X9_67 : JFld RX9 67 9 24 "[I" true := ⟨by decide, (RX9, TX9, 56), rfl, by decide, rfl, rfl, Or.inl (tb_mem 935 (by decide +kernel) rfl)⟩
theorem f_X9_70 : JFld RX9 70 9 25 "[I" true := ⟨by decide, (RX9, TX9, 56), rfl, by decide, rfl, rfl, Or.inl (tb_mem 936 (by decide +kernel) rfl)⟩
theorem f_X9_73 : JFld RX9 73 9 26 "[I" true := ⟨by decide, (RX9, TX9, 56), rfl, by decide, rfl, rfl, Or.inl (tb_mem 937 (by decide +kernel) rfl)⟩
theorem f_X9_76 : JFld RX9 76 9 27 "[I" true := ⟨by decide, (RX9, TX9, 56), rfl, by decide, rfl, rfl, Or.inl (tb_mem 938 (by decide +kernel) rfl)⟩
theorem f_X9_79 : JFld RX9 79 9 28 "[Z" true := ⟨by decide, (RX9, TX9, 56), rfl, by decide, rfl, rfl, Or.inl (tb_mem 939 (by decide +kernel) rfl)⟩
theorem f_X9_82 : JFld RX9 82 9 29 "[Z" true := ⟨by decide, (RX9, TX9, 56), rfl, by decide, rfl, rfl, Or.inl (tb_mem 940 (by decide +kernel) rfl)⟩
theorem f_X9_85 : JFld RX9 85 9 30 "[I" true := ⟨by decide, (RX9, TX9, 56), rfl, by decide, rfl, rfl, Or.inl (tb_mem 941 (by decide +kernel) rfl)⟩
theorem f_X9_88 : JFld RX9 88 9 31 "[I" true := ⟨by decide, (RX9, TX9, 56), rfl, by decide, rfl, rfl, Or.inl (tb_mem 942 (by decide +kernel) rfl)⟩
theorem f_X9_91 : JFld RX9 91 9 32 "[I" true := ⟨by decide, (RX9, TX9, 56), rfl, by decide, rfl, rfl, Or.inl (tb_mem 943 (by decide +kernel) rfl)⟩
theorem f_X9_94 : JFld RX9 94 9 33 "[I" true := ⟨by decide, (RX9, TX9, 56), rfl, by decide, rfl, rfl, Or.inl (tb_mem 944 (by decide +kernel) rfl)⟩
theorem f_X9_97 : JFld RX9 97 9 34 "[I" true := ⟨by decide, (RX9, TX9, 56), rfl, by decide, rfl, rfl, Or.inl (tb_mem 945 (by decide +kernel) rfl)⟩
theorem f_X9_100 : JFld RX9 100 9 35 "[I" true := ⟨by decide, (RX9, TX9, 56), rfl, by decide, rfl, rfl, Or.inl (tb_mem 946 (by decide +kernel) rfl)⟩
theorem f_X9_103 : JFld RX9 103 9 36 "[I" true := ⟨by decide, (RX9, TX9, 56), rfl, by decide, rfl, rfl, Or.inl (tb_mem 947 (by decide +kernel) rfl)⟩
theorem f_X9_106 : JFld RX9 106 9 41 "[I" true := ⟨by decide, (RX9, TX9, 56), rfl, by decide, rfl, rfl, Or.inl (tb_mem 952 (by decide +kernel) rfl)⟩
theorem f_X9_109 : JFld RX9 109 9 42 "[I" true := ⟨by decide, (RX9, TX9, 56), rfl, by decide, rfl, rfl, Or.inl (tb_mem 953 (by decide +kernel) rfl)⟩
theorem f_X9_112 : JFld RX9 112 9 43 "[I" true := ⟨by decide, (RX9, TX9, 56), rfl, by decide, rfl, rfl, Or.inl (tb_mem 954 (by decide +kernel) rfl)⟩
theorem f_X9_115 : JFld RX9 115 9 44 "[I" true := ⟨by decide, (RX9, TX9, 56), rfl, by decide, rfl, rfl, Or.inl (tb_mem 955 (by decide +kernel) rfl)⟩
theorem f_X9_118 : JFld RX9 118 9 45 "[I" true := ⟨by decide, (RX9, TX9, 56), rfl, by decide, rfl, rfl, Or.inl (tb_mem 956 (by decide +kernel) rfl)⟩
theorem f_X9_121 : JFld RX9 121 9 46 "[I" true := ⟨by decide, (RX9, TX9, 56), rfl, by decide, rfl, rfl, Or.inl (tb_mem 957 (by decide +kernel) rfl)⟩
theorem f_X9_124 : JFld RX9 124 9 52 "[I" true := ⟨by decide, (RX9, TX9, 56), rfl, by decide, rfl, rfl, Or.inl (tb_mem 963 (by decide +kernel) rfl)⟩
theorem f_X9_127 : JFld RX9 127 9 54 "[I" true := ⟨by decide, (RX9, TX9, 56), rfl, by decide, rfl, rfl, Or.inl (tb_mem 965 (by decide +kernel) rfl)⟩
theorem f_X9_130 : JFld RX9 130 9 2 "I" false := ⟨by decide, (RX9, TX9, 56), rfl, by decide, rfl, rfl, Or.inl (tb_mem 913 (by decide +kernel) rfl)⟩
theorem f_X9_145 : JFld RX9 145 9 8 "I" false := ⟨by decide, (RX9, TX9, 56), rfl, by decide, rfl, rfl, Or.inl (tb_mem 919 (by decide +kernel) rfl)⟩
theorem f_X9_155 : JFld RX9 155 9 10 "Z" false := ⟨by decide, (RX9, TX9, 56), rfl, by decide, rfl, rfl, Or.inl (tb_mem 921 (by decide +kernel) rfl)⟩
theorem f_X9_179 : JFld RX9 179 9 5 "J" false := ⟨by decide, (RX9, TX9, 56), rfl, by decide, rfl, rfl, Or.inl (tb_mem 916 (by decide +kernel) rfl)⟩
theorem f_X9_186 : JFld RX9 186 9 11 "I" false := ⟨by decide, (RX9, TX9, 56), rfl, by decide, rfl, rfl, Or.inl (tb_mem 922 (by decide +kernel) rfl)⟩
theorem f_X9_196 : JFld RX9 196 9 12 "I" false := ⟨by decide, (RX9, TX9, 56), rfl, by decide, rfl, rfl, Or.inl (tb_mem 923 (by decide +kernel) rfl)⟩
theorem f_X9_227 : JFld RX9 227 9 37 "I" false := ⟨by decide, (RX9, TX9, 56), rfl, by decide, rfl, rfl, Or.inl (tb_mem 948 (by decide +kernel) rfl)⟩
theorem f_X9_233 : JFld RX9 233 9 38 "I" false := ⟨by decide, (RX9, TX9, 56), rfl, by decide, rfl, rfl, Or.inl (tb_mem 949 (by decide +kernel) rfl)⟩
theorem f_X9_236 : JFld RX9 236 9 39 "I" false := ⟨by decide, (RX9, TX9, 56), rfl, by decide, rfl, rfl, Or.inl (tb_mem 950 (by decide +kernel) rfl)⟩
theorem f_X9_242 : JFld RX9 242 9 40 "I" false := ⟨by decide, (RX9, TX9, 56), rfl, by decide, rfl, rfl, Or.inl (tb_mem 951 (by decide +kernel) rfl)⟩
theorem f_X9_253 : JFld RX9 253 9 50 "I" false := ⟨by decide, (RX9, TX9, 56), rfl, by decide, rfl, rfl, Or.inl (tb_mem 961 (by decide +kernel) rfl)⟩
theorem f_X9_256 : JFld RX9 256 9 47 "I" false := ⟨by decide, (RX9, TX9, 56), rfl, by decide, rfl, rfl, Or.inl (tb_mem 958 (by decide +kernel) rfl)⟩
theorem f_X9_259 : JFld RX9 259 9 48 "I" false := ⟨by decide, (RX9, TX9, 56), rfl, by decide, rfl, rfl, Or.inl (tb_mem 959 (by decide +kernel) rfl)⟩
theorem f_X9_262 : JFld RX9 262 9 49 "I" false := ⟨by decide, (RX9, TX9, 56), rfl, by decide, rfl, rfl, Or.inl (tb_mem 960 (by decide +kernel) rfl)⟩
theorem f_X9_269 : JFld RX9 269 9 51 "I" false := ⟨by decide, (RX9, TX9, 56), rfl, by decide, rfl, rfl, Or.inl (tb_mem 962 (by decide +kernel) rfl)⟩
theorem f_X9_298 : JFld RX9 298 9 53 "Z" false := ⟨by decide, (RX9, TX9, 56), rfl, by decide, rfl, rfl, Or.inl (tb_mem 964 (by decide +kernel) rfl)⟩
theorem f_X9_324 : JFld RX9 324 9 55 "I" false := ⟨by decide, (RX9, TX9, 56), rfl, by decide, rfl, rfl, Or.inl (tb_mem 966 (by decide +kernel) rfl)⟩
theorem l_X0_18 : JLk RX0 18 yX8_isSize := Or.inr ⟨"ChipBurner", List.mem_of_getElem? (i := 461) (by decide +kernel)⟩
theorem l_X0_49 : JLk RX0 49 yJ7_fill_53178 := Or.inl (tb_mem 462 (by decide +kernel) rfl)
theorem l_X0_70 : JLk RX0 70 yX0_isAddress := Or.inl (tb_mem 540 (by decide +kernel) rfl)
theorem l_X0_73 : JLk RX0 73 yX0_blockCount := Or.inl (tb_mem 552 (by decide +kernel) rfl)
theorem l_X0_77 : JLk RX0 77 yX8_isWithin := Or.inr ⟨"ChipBurner", List.mem_of_getElem? (i := 556) (by decide +kernel)⟩
theorem l_X0_84 : JLk RX0 84 yX0_logicalCount := Or.inl (tb_mem 581 (by decide +kernel) rfl)
theorem l_X0_87 : JLk RX0 87 yX0_firstLackingPin := Or.inl (tb_mem 585 (by decide +kernel) rfl)
theorem l_X0_93 : JLk RX0 93 yX0_addressOf := Or.inl (tb_mem 593 (by decide +kernel) rfl)
theorem l_X2_108 : JLk RX2 108 yX6_pairAt := Or.inl (tb_mem 376 (by decide +kernel) rfl)
theorem l_X2_111 : JLk RX2 111 yX2_areDigits := Or.inl (tb_mem 367 (by decide +kernel) rfl)
theorem l_X2_114 : JLk RX2 114 yX6_digitAt := Or.inl (tb_mem 371 (by decide +kernel) rfl)
theorem l_X2_23 : JLk RX2 23 yJ9_min_7cf53 := Or.inl (tb_mem 320 (by decide +kernel) rfl)
theorem l_X2_35 : JLk RX2 35 yX1_start := Or.inl (tb_mem 326 (by decide +kernel) rfl)
theorem l_X2_44 : JLk RX2 44 yX2_takePlain := Or.inl (tb_mem 330 (by decide +kernel) rfl)
theorem l_X2_47 : JLk RX2 47 yX2_takeLines := Or.inl (tb_mem 347 (by decide +kernel) rfl)
theorem l_X2_51 : JLk RX2 51 yX1_isFault := Or.inl (tb_mem 351 (by decide +kernel) rfl)
theorem l_X2_55 : JLk RX2 55 yX6_size := Or.inl (tb_mem 334 (by decide +kernel) rfl)
theorem l_X2_61 : JLk RX2 61 yX1_mark := Or.inl (tb_mem 335 (by decide +kernel) rfl)
theorem l_X2_65 : JLk RX2 65 yX6_at := Or.inl (tb_mem 339 (by decide +kernel) rfl)
theorem l_X2_69 : JLk RX2 69 yX2_stage := Or.inl (tb_mem 343 (by decide +kernel) rfl)
theorem l_X2_76 : JLk RX2 76 yX2_stopOf := Or.inl (tb_mem 355 (by decide +kernel) rfl)
theorem l_X2_79 : JLk RX2 79 yX2_takeLine := Or.inl (tb_mem 359 (by decide +kernel) rfl)
theorem l_X2_83 : JLk RX2 83 yX2_isColonLine := Or.inl (tb_mem 363 (by decide +kernel) rfl)
theorem l_X2_87 : JLk RX2 87 yX2_isSLine := Or.inl (tb_mem 381 (by decide +kernel) rfl)
theorem l_X2_90 : JLk RX2 90 yX2_sumOf := Or.inl (tb_mem 385 (by decide +kernel) rfl)
theorem l_X2_96 : JLk RX2 96 yX2_takeData := Or.inl (tb_mem 389 (by decide +kernel) rfl)
theorem l_X3_15 : JLk RX3 15 yX6_cutTo := Or.inl (tb_mem 413 (by decide +kernel) rfl)
theorem l_X3_21 : JLk RX3 21 yJ9_min_7cf53 := Or.inl (tb_mem 414 (by decide +kernel) rfl)
theorem l_X3_27 : JLk RX3 27 yX3_startLine := Or.inl (tb_mem 415 (by decide +kernel) rfl)
theorem l_X3_31 : JLk RX3 31 yX3_addByte := Or.inl (tb_mem 420 (by decide +kernel) rfl)
theorem l_X3_35 : JLk RX3 35 yX3_stopLine := Or.inl (tb_mem 432 (by decide +kernel) rfl)
theorem l_X3_42 : JLk RX3 42 yX6_add := Or.inl (tb_mem 419 (by decide +kernel) rfl)
theorem l_X3_45 : JLk RX3 45 yX3_addAddress := Or.inl (tb_mem 428 (by decide +kernel) rfl)
theorem l_X3_48 : JLk RX3 48 yX6_addDigit := Or.inl (tb_mem 424 (by decide +kernel) rfl)
theorem l_X4_31 : JLk RX4 31 yX4_isFull := Or.inl (tb_mem 732 (by decide +kernel) rfl)
theorem l_X4_35 : JLk RX4 35 yX4_isStep := Or.inl (tb_mem 646 (by decide +kernel) rfl)
theorem l_X4_39 : JLk RX4 39 yX4_volts := Or.inl (tb_mem 753 (by decide +kernel) rfl)
theorem l_X4_45 : JLk RX4 45 yX4_most := Or.inl (tb_mem 781 (by decide +kernel) rfl)
theorem l_X4_49 : JLk RX4 49 yJ9_min_f86c9 := Or.inl (tb_mem 788 (by decide +kernel) rfl)
theorem l_X4_68 : JLk RX4 68 yX4_kindOf := Or.inl (tb_mem 757 (by decide +kernel) rfl)
theorem l_X4_72 : JLk RX4 72 yX4_numberOf := Or.inl (tb_mem 761 (by decide +kernel) rfl)
theorem l_X4_75 : JLk RX4 75 yJ9_max_7cf53 := Or.inl (tb_mem 765 (by decide +kernel) rfl)
theorem l_X4_79 : JLk RX4 79 yX4_otherwiseOf := Or.inl (tb_mem 768 (by decide +kernel) rfl)
theorem l_X4_82 : JLk RX4 82 yX4_behindOf := Or.inl (tb_mem 772 (by decide +kernel) rfl)
theorem l_X4_85 : JLk RX4 85 yX4_voltsOfTry := Or.inl (tb_mem 776 (by decide +kernel) rfl)
theorem l_X4_89 : JLk RX4 89 yJ9_max_f86c9 := Or.inl (tb_mem 785 (by decide +kernel) rfl)
theorem l_X5_103 : JLk RX5 103 yX4_close := Or.inl (tb_mem 642 (by decide +kernel) rfl)
theorem l_X5_109 : JLk RX5 109 yX5_isWord := Or.inl (tb_mem 651 (by decide +kernel) rfl)
theorem l_X5_113 : JLk RX5 113 yX4_startOtherwise := Or.inl (tb_mem 703 (by decide +kernel) rfl)
theorem l_X5_116 : JLk RX5 116 yX5_tokenNumber := Or.inl (tb_mem 737 (by decide +kernel) rfl)
theorem l_X5_119 : JLk RX5 119 yX4_setNumber := Or.inl (tb_mem 741 (by decide +kernel) rfl)
theorem l_X5_135 : JLk RX5 135 yJ0_length_8abf5 := Or.inl (tb_mem 655 (by decide +kernel) rfl)
theorem l_X5_140 : JLk RX5 140 yX6_at := Or.inl (tb_mem 620 (by decide +kernel) rfl)
theorem l_X5_143 : JLk RX5 143 yJ0_charAt_5068e := Or.inl (tb_mem 665 (by decide +kernel) rfl)
theorem l_X5_147 : JLk RX5 147 yJ9_min_7cf53 := Or.inl (tb_mem 624 (by decide +kernel) rfl)
theorem l_X5_153 : JLk RX5 153 yX5_behindBlanks := Or.inl (tb_mem 616 (by decide +kernel) rfl)
theorem l_X5_156 : JLk RX5 156 yX5_kindOfByte := Or.inl (tb_mem 621 (by decide +kernel) rfl)
theorem l_X5_159 : JLk RX5 159 yX5_behindSame := Or.inl (tb_mem 625 (by decide +kernel) rfl)
theorem l_X5_27 : JLk RX5 27 yX1_start := Or.inl (tb_mem 605 (by decide +kernel) rfl)
theorem l_X5_32 : JLk RX5 32 yX6_size := Or.inl (tb_mem 606 (by decide +kernel) rfl)
theorem l_X5_38 : JLk RX5 38 yX1_mark := Or.inl (tb_mem 607 (by decide +kernel) rfl)
theorem l_X5_42 : JLk RX5 42 yX4_clear := Or.inl (tb_mem 608 (by decide +kernel) rfl)
theorem l_X5_54 : JLk RX5 54 yX5_nextToken := Or.inl (tb_mem 612 (by decide +kernel) rfl)
theorem l_X5_60 : JLk RX5 60 yX5_isSign := Or.inl (tb_mem 629 (by decide +kernel) rfl)
theorem l_X5_64 : JLk RX5 64 yX5_takeClosing := Or.inl (tb_mem 633 (by decide +kernel) rfl)
theorem l_X5_68 : JLk RX5 68 yX5_takeStep := Or.inl (tb_mem 711 (by decide +kernel) rfl)
theorem l_X5_71 : JLk RX5 71 yX5_refuse := Or.inl (tb_mem 638 (by decide +kernel) rfl)
theorem l_X5_74 : JLk RX5 74 yX4_measure := Or.inl (tb_mem 749 (by decide +kernel) rfl)
theorem l_X5_77 : JLk RX5 77 yX5_stepKind := Or.inl (tb_mem 715 (by decide +kernel) rfl)
theorem l_X5_80 : JLk RX5 80 yX4_isFull := Or.inl (tb_mem 724 (by decide +kernel) rfl)
theorem l_X5_84 : JLk RX5 84 yX4_addStep := Or.inl (tb_mem 728 (by decide +kernel) rfl)
theorem l_X5_88 : JLk RX5 88 yX5_takeNumber := Or.inl (tb_mem 733 (by decide +kernel) rfl)
theorem l_X5_92 : JLk RX5 92 yX5_takeSign := Or.inl (tb_mem 707 (by decide +kernel) rfl)
theorem l_X5_95 : JLk RX5 95 yX5_takeOpening := Or.inl (tb_mem 745 (by decide +kernel) rfl)
theorem l_X5_99 : JLk RX5 99 yX8_isWithin := Or.inr ⟨"ChipBurner", List.mem_of_getElem? (i := 637) (by decide +kernel)⟩
theorem l_X6_19 : JLk RX6 19 yX6_add := Or.inl (tb_mem 297 (by decide +kernel) rfl)
theorem l_X6_23 : JLk RX6 23 yX6_at := Or.inl (tb_mem 375 (by decide +kernel) rfl)
theorem l_X6_27 : JLk RX6 27 yX6_digitAt := Or.inl (tb_mem 380 (by decide +kernel) rfl)
theorem l_X7_41 : JLk RX7 41 yX7_workSteps := Or.inl (tb_mem 867 (by decide +kernel) rfl)
theorem l_X7_45 : JLk RX7 45 yX7_workStep := Or.inl (tb_mem 871 (by decide +kernel) rfl)
theorem l_X7_49 : JLk RX7 49 yX4_behindOf := Or.inl (tb_mem 886 (by decide +kernel) rfl)
theorem l_X7_53 : JLk RX7 53 yJ9_max_7cf53 := Or.inl (tb_mem 892 (by decide +kernel) rfl)
theorem l_X7_59 : JLk RX7 59 yX4_kindOf := Or.inl (tb_mem 875 (by decide +kernel) rfl)
theorem l_X7_62 : JLk RX7 62 yX4_numberOf := Or.inl (tb_mem 876 (by decide +kernel) rfl)
theorem l_X7_65 : JLk RX7 65 yX7_givePulses := Or.inl (tb_mem 877 (by decide +kernel) rfl)
theorem l_X7_69 : JLk RX7 69 yX0_isRight := Or.inl (tb_mem 885 (by decide +kernel) rfl)
theorem l_X7_75 : JLk RX7 75 yX7_workBranch := Or.inl (tb_mem 887 (by decide +kernel) rfl)
theorem l_X7_78 : JLk RX7 78 yX4_otherwiseOf := Or.inl (tb_mem 891 (by decide +kernel) rfl)
theorem l_X7_81 : JLk RX7 81 yX0_takePulse := Or.inl (tb_mem 881 (by decide +kernel) rfl)
theorem l_X8_101 : JLk RX8 101 yJ9_min_f86c9 := Or.inl (tb_mem 394 (by decide +kernel) rfl)
theorem l_X8_113 : JLk RX8 113 yX3_lengthOf := Or.inl (tb_mem 405 (by decide +kernel) rfl)
theorem l_X8_117 : JLk RX8 117 yX3_writeOut := Or.inl (tb_mem 409 (by decide +kernel) rfl)
theorem l_X8_121 : JLk RX8 121 yX6_at := Or.inl (tb_mem 440 (by decide +kernel) rfl)
theorem l_X8_125 : JLk RX8 125 yX8_isSize := Or.inl (tb_mem 453 (by decide +kernel) rfl)
theorem l_X8_131 : JLk RX8 131 yX0_init := Or.inl (tb_mem 457 (by decide +kernel) rfl)
theorem l_X8_134 : JLk RX8 134 yX0_setLimits := Or.inl (tb_mem 520 (by decide +kernel) rfl)
theorem l_X8_138 : JLk RX8 138 yX0_setWear := Or.inl (tb_mem 524 (by decide +kernel) rfl)
theorem l_X8_142 : JLk RX8 142 yX8_chipAt := Or.inl (tb_mem 532 (by decide +kernel) rfl)
theorem l_X8_146 : JLk RX8 146 yX0_setNeed := Or.inl (tb_mem 536 (by decide +kernel) rfl)
theorem l_X8_150 : JLk RX8 150 yX0_setBad := Or.inl (tb_mem 548 (by decide +kernel) rfl)
theorem l_X8_154 : JLk RX8 154 yX0_setContact := Or.inl (tb_mem 561 (by decide +kernel) rfl)
theorem l_X8_161 : JLk RX8 161 yX0_wipe := Or.inl (tb_mem 569 (by decide +kernel) rfl)
theorem l_X8_167 : JLk RX8 167 yX0_property := Or.inl (tb_mem 577 (by decide +kernel) rfl)
theorem l_X8_170 : JLk RX8 170 yX0_cell := Or.inl (tb_mem 589 (by decide +kernel) rfl)
theorem l_X8_173 : JLk RX8 173 yX5_readInto := Or.inl (tb_mem 601 (by decide +kernel) rfl)
theorem l_X8_179 : JLk RX8 179 yX8_recipeAt := Or.inl (tb_mem 794 (by decide +kernel) rfl)
theorem l_X8_192 : JLk RX8 192 yX8_isPart := Or.inl (tb_mem 802 (by decide +kernel) rfl)
theorem l_X8_195 : JLk RX8 195 yX8_hindrance := Or.inl (tb_mem 805 (by decide +kernel) rfl)
theorem l_X8_202 : JLk RX8 202 yX7_init := Or.inl (tb_mem 832 (by decide +kernel) rfl)
theorem l_X8_205 : JLk RX8 205 yX8_reachOf := Or.inl (tb_mem 814 (by decide +kernel) rfl)
theorem l_X8_212 : JLk RX8 212 yX0_addressOf := Or.inl (tb_mem 819 (by decide +kernel) rfl)
theorem l_X8_215 : JLk RX8 215 yX8_image := Or.inl (tb_mem 820 (by decide +kernel) rfl)
theorem l_X8_218 : JLk RX8 218 yX0_isRight := Or.inl (tb_mem 859 (by decide +kernel) rfl)
theorem l_X8_22 : JLk RX8 22 yX1_init := Or.inr ⟨"ChipBurner", List.mem_of_getElem? (i := 117) (by decide +kernel)⟩
theorem l_X8_221 : JLk RX8 221 yX7_workAt := Or.inl (tb_mem 863 (by decide +kernel) rfl)
theorem l_X8_224 : JLk RX8 224 yX0_logicalCount := Or.inl (tb_mem 817 (by decide +kernel) rfl)
theorem l_X8_227 : JLk RX8 227 yJ9_min_7cf53 := Or.inl (tb_mem 818 (by decide +kernel) rfl)
theorem l_X8_229 : JLk RX8 229 yX0_firstLackingPin := Or.inl (tb_mem 809 (by decide +kernel) rfl)
theorem l_X8_235 : JLk RX8 235 yX4_fits := Or.inl (tb_mem 810 (by decide +kernel) rfl)
theorem l_X8_239 : JLk RX8 239 yX0_mustGoBack := Or.inl (tb_mem 821 (by decide +kernel) rfl)
theorem l_X8_29 : JLk RX8 29 yX2_init := Or.inl (tb_mem 132 (by decide +kernel) rfl)
theorem l_X8_38 : JLk RX8 38 yX3_init := Or.inl (tb_mem 166 (by decide +kernel) rfl)
theorem l_X8_47 : JLk RX8 47 yX5_init := Or.inl (tb_mem 179 (by decide +kernel) rfl)
theorem l_X8_64 : JLk RX8 64 yX4_init := Or.inr ⟨"ChipBurner", List.mem_of_getElem? (i := 214) (by decide +kernel)⟩
theorem l_X8_69 : JLk RX8 69 yJ7_fill_53178 := Or.inl (tb_mem 248 (by decide +kernel) rfl)
theorem l_X8_75 : JLk RX8 75 yX6_size := Or.inl (tb_mem 289 (by decide +kernel) rfl)
theorem l_X8_79 : JLk RX8 79 yX6_addFour := Or.inl (tb_mem 293 (by decide +kernel) rfl)
theorem l_X8_83 : JLk RX8 83 yX6_cutTo := Or.inl (tb_mem 305 (by decide +kernel) rfl)
theorem l_X8_87 : JLk RX8 87 yX8_isWithin := Or.inl (tb_mem 313 (by decide +kernel) rfl)
theorem l_X8_9 : JLk RX8 9 yX6_init := Or.inr ⟨"ChipBurner", List.mem_of_getElem? (i := 103) (by decide +kernel)⟩
theorem l_X8_91 : JLk RX8 91 yX2_readInto := Or.inl (tb_mem 316 (by decide +kernel) rfl)
theorem l_L_102 : JLk RL 102 yX9_read := Or.inl (tb_mem 1330 (by decide +kernel) rfl)
theorem l_L_103 : JLk RL 103 yX8_about := Or.inl (tb_mem 901 (by decide +kernel) rfl)
theorem l_L_106 : JLk RL 106 yX9_about := Or.inl (tb_mem 1334 (by decide +kernel) rfl)
theorem l_L_12 : JLk RL 12 yX9_init := Or.inl (tb_mem 907 (by decide +kernel) rfl)
theorem l_L_13 : JLk RL 13 yX8_feed := Or.inl (tb_mem 285 (by decide +kernel) rfl)
theorem l_L_17 : JLk RL 17 yX9_feed := Or.inl (tb_mem 1081 (by decide +kernel) rfl)
theorem l_L_18 : JLk RL 18 yX8_end := Or.inl (tb_mem 301 (by decide +kernel) rfl)
theorem l_L_22 : JLk RL 22 yX9_end := Or.inl (tb_mem 1089 (by decide +kernel) rfl)
theorem l_L_23 : JLk RL 23 yX8_file := Or.inl (tb_mem 309 (by decide +kernel) rfl)
theorem l_L_26 : JLk RL 26 yX9_file := Or.inl (tb_mem 1108 (by decide +kernel) rfl)
theorem l_L_27 : JLk RL 27 yX8_fault := Or.inl (tb_mem 397 (by decide +kernel) rfl)
theorem l_L_30 : JLk RL 30 yX9_fault := Or.inl (tb_mem 1147 (by decide +kernel) rfl)
theorem l_L_31 : JLk RL 31 yX8_write := Or.inl (tb_mem 401 (by decide +kernel) rfl)
theorem l_L_35 : JLk RL 35 yX9_write := Or.inl (tb_mem 1151 (by decide +kernel) rfl)
theorem l_L_36 : JLk RL 36 yX8_tape := Or.inl (tb_mem 436 (by decide +kernel) rfl)
theorem l_L_39 : JLk RL 39 yX9_tape := Or.inl (tb_mem 1096 (by decide +kernel) rfl)
theorem l_L_40 : JLk RL 40 yX8_image := Or.inl (tb_mem 441 (by decide +kernel) rfl)
theorem l_L_43 : JLk RL 43 yX9_image := Or.inl (tb_mem 1100 (by decide +kernel) rfl)
theorem l_L_44 : JLk RL 44 yX8_fill := Or.inl (tb_mem 445 (by decide +kernel) rfl)
theorem l_L_48 : JLk RL 48 yX9_fill := Or.inl (tb_mem 1104 (by decide +kernel) rfl)
theorem l_L_49 : JLk RL 49 yX8_chip := Or.inl (tb_mem 449 (by decide +kernel) rfl)
theorem l_L_53 : JLk RL 53 yX9_chip := Or.inl (tb_mem 1167 (by decide +kernel) rfl)
theorem l_L_54 : JLk RL 54 yX8_need := Or.inl (tb_mem 528 (by decide +kernel) rfl)
theorem l_L_58 : JLk RL 58 yX9_need := Or.inl (tb_mem 1171 (by decide +kernel) rfl)
theorem l_L_59 : JLk RL 59 yX8_bad := Or.inl (tb_mem 544 (by decide +kernel) rfl)
theorem l_L_63 : JLk RL 63 yX9_bad := Or.inl (tb_mem 1183 (by decide +kernel) rfl)
theorem l_L_64 : JLk RL 64 yX8_contact := Or.inl (tb_mem 557 (by decide +kernel) rfl)
theorem l_L_67 : JLk RL 67 yX9_contact := Or.inl (tb_mem 1187 (by decide +kernel) rfl)
theorem l_L_68 : JLk RL 68 yX8_erase := Or.inl (tb_mem 565 (by decide +kernel) rfl)
theorem l_L_71 : JLk RL 71 yX9_erase := Or.inl (tb_mem 1191 (by decide +kernel) rfl)
theorem l_L_72 : JLk RL 72 yX8_chipOf := Or.inl (tb_mem 573 (by decide +kernel) rfl)
theorem l_L_76 : JLk RL 76 yX9_chipOf := Or.inl (tb_mem 1195 (by decide +kernel) rfl)
theorem l_L_77 : JLk RL 77 yX8_recipe := Or.inl (tb_mem 597 (by decide +kernel) rfl)
theorem l_L_80 : JLk RL 80 yX9_recipe := Or.inl (tb_mem 1213 (by decide +kernel) rfl)
theorem l_L_81 : JLk RL 81 yX8_walk := Or.inl (tb_mem 790 (by decide +kernel) rfl)
theorem l_L_84 : JLk RL 84 yX9_walk := Or.inl (tb_mem 1273 (by decide +kernel) rfl)
theorem l_L_85 : JLk RL 85 yX8_why := Or.inl (tb_mem 798 (by decide +kernel) rfl)
theorem l_L_88 : JLk RL 88 yX9_why := Or.inl (tb_mem 1290 (by decide +kernel) rfl)
theorem l_L_89 : JLk RL 89 yX8_burn := Or.inl (tb_mem 825 (by decide +kernel) rfl)
theorem l_L_9 : JLk RL 9 yX8_init := Or.inl (tb_mem 95 (by decide +kernel) rfl)
theorem l_L_93 : JLk RL 93 yX9_burn := Or.inl (tb_mem 1309 (by decide +kernel) rfl)
theorem l_L_94 : JLk RL 94 yX8_wrong := Or.inl (tb_mem 893 (by decide +kernel) rfl)
theorem l_L_97 : JLk RL 97 yX9_wrong := Or.inl (tb_mem 1326 (by decide +kernel) rfl)
theorem l_L_98 : JLk RL 98 yX8_read := Or.inl (tb_mem 897 (by decide +kernel) rfl)
theorem l_X9_133 : JLk RX9 133 yX9_four := Or.inl (tb_mem 1085 (by decide +kernel) rfl)
theorem l_X9_137 : JLk RX9 137 yX9_isIn := Or.inl (tb_mem 1093 (by decide +kernel) rfl)
theorem l_X9_141 : JLk RX9 141 yX9_digitOf := Or.inl (tb_mem 1132 (by decide +kernel) rfl)
theorem l_X9_148 : JLk RX9 148 yX9_bytes := Or.inl (tb_mem 1128 (by decide +kernel) rfl)
theorem l_X9_152 : JLk RX9 152 yX9_sumOf := Or.inl (tb_mem 1135 (by decide +kernel) rfl)
theorem l_X9_159 : JLk RX9 159 yX9_data := Or.inl (tb_mem 1139 (by decide +kernel) rfl)
theorem l_X9_162 : JLk RX9 162 yX9_put := Or.inl (tb_mem 1116 (by decide +kernel) rfl)
theorem l_X9_166 : JLk RX9 166 yX9_lineOne := Or.inl (tb_mem 1124 (by decide +kernel) rfl)
theorem l_X9_169 : JLk RX9 169 yX9_lineTwo := Or.inl (tb_mem 1143 (by decide +kernel) rfl)
theorem l_X9_172 : JLk RX9 172 yX9_readPlain := Or.inl (tb_mem 1112 (by decide +kernel) rfl)
theorem l_X9_176 : JLk RX9 176 yX9_readLines := Or.inl (tb_mem 1120 (by decide +kernel) rfl)
theorem l_X9_183 : JLk RX9 183 yX9_writeSign := Or.inl (tb_mem 1159 (by decide +kernel) rfl)
theorem l_X9_189 : JLk RX9 189 yX9_writeByte := Or.inl (tb_mem 1163 (by decide +kernel) rfl)
theorem l_X9_192 : JLk RX9 192 yX9_writeLine := Or.inl (tb_mem 1155 (by decide +kernel) rfl)
theorem l_X9_199 : JLk RX9 199 yX9_isChip := Or.inl (tb_mem 1179 (by decide +kernel) rfl)
theorem l_X9_203 : JLk RX9 203 yX9_isAddress := Or.inl (tb_mem 1175 (by decide +kernel) rfl)
theorem l_X9_207 : JLk RX9 207 yX9_logicals := Or.inl (tb_mem 1199 (by decide +kernel) rfl)
theorem l_X9_210 : JLk RX9 210 yX9_addressOf := Or.inl (tb_mem 1203 (by decide +kernel) rfl)
theorem l_X9_213 : JLk RX9 213 yX9_lacking := Or.inl (tb_mem 1207 (by decide +kernel) rfl)
theorem l_X9_219 : JLk RX9 219 yX9_add := Or.inl (tb_mem 1239 (by decide +kernel) rfl)
theorem l_X9_230 : JLk RX9 230 yX9_see := Or.inl (tb_mem 1225 (by decide +kernel) rfl)
theorem l_X9_239 : JLk RX9 239 yX9_isDigit := Or.inl (tb_mem 1229 (by decide +kernel) rfl)
theorem l_X9_246 : JLk RX9 246 yX9_isLetter := Or.inl (tb_mem 1233 (by decide +kernel) rfl)
theorem l_X9_249 : JLk RX9 249 yX9_wordOf := Or.inl (tb_mem 1236 (by decide +kernel) rfl)
theorem l_X9_266 : JLk RX9 266 yX9_lesser := Or.inl (tb_mem 1258 (by decide +kernel) rfl)
theorem l_X9_272 : JLk RX9 272 yX9_nextToken := Or.inl (tb_mem 1221 (by decide +kernel) rfl)
theorem l_X9_275 : JLk RX9 275 yX9_order := Or.inl (tb_mem 1248 (by decide +kernel) rfl)
theorem l_X9_278 : JLk RX9 278 yX9_semicolon := Or.inl (tb_mem 1265 (by decide +kernel) rfl)
theorem l_X9_281 : JLk RX9 281 yX9_begin := Or.inl (tb_mem 1269 (by decide +kernel) rfl)
theorem l_X9_286 : JLk RX9 286 yX9_close := Or.inl (tb_mem 1254 (by decide +kernel) rfl)
theorem l_X9_289 : JLk RX9 289 yX9_brace := Or.inl (tb_mem 1244 (by decide +kernel) rfl)
theorem l_X9_292 : JLk RX9 292 yX9_step := Or.inl (tb_mem 1261 (by decide +kernel) rfl)
theorem l_X9_295 : JLk RX9 295 yX9_readRecipe := Or.inl (tb_mem 1217 (by decide +kernel) rfl)
theorem l_X9_301 : JLk RX9 301 yX9_flowFrom := Or.inl (tb_mem 1281 (by decide +kernel) rfl)
theorem l_X9_304 : JLk RX9 304 yX9_flow := Or.inl (tb_mem 1285 (by decide +kernel) rfl)
theorem l_X9_307 : JLk RX9 307 yX9_mostVolts := Or.inl (tb_mem 1277 (by decide +kernel) rfl)
theorem l_X9_311 : JLk RX9 311 yX9_isFit := Or.inl (tb_mem 1301 (by decide +kernel) rfl)
theorem l_X9_314 : JLk RX9 314 yX9_last := Or.inl (tb_mem 1305 (by decide +kernel) rfl)
theorem l_X9_317 : JLk RX9 317 yX9_isPart := Or.inl (tb_mem 1294 (by decide +kernel) rfl)
theorem l_X9_320 : JLk RX9 320 yX9_whyNot := Or.inl (tb_mem 1297 (by decide +kernel) rfl)
theorem l_X9_327 : JLk RX9 327 yX9_pulse := Or.inl (tb_mem 1322 (by decide +kernel) rfl)
theorem l_X9_330 : JLk RX9 330 yX9_isWrong := Or.inl (tb_mem 1314 (by decide +kernel) rfl)
theorem l_X9_333 : JLk RX9 333 yX9_why := Or.inl (tb_mem 1313 (by decide +kernel) rfl)
theorem l_X9_336 : JLk RX9 336 yX9_work := Or.inl (tb_mem 1318 (by decide +kernel) rfl)
theorem l_J0_1059 : JLk RJ0 1059 yJ3_checkIndex_8e157 := Or.inl (tb_mem 681 (by decide +kernel) rfl)
theorem l_J0_335 : JLk RJ0 335 yJ0_coder_7d493 := Or.inl (tb_mem 659 (by decide +kernel) rfl)
theorem l_J0_492 : JLk RJ0 492 yJ0_isLatin1_aae02 := Or.inl (tb_mem 669 (by decide +kernel) rfl)
theorem l_J0_495 : JLk RJ0 495 yJ1_charAt_3b067 := Or.inl (tb_mem 673 (by decide +kernel) rfl)
theorem l_J0_498 : JLk RJ0 498 yJ2_charAt_3b067 := Or.inl (tb_mem 684 (by decide +kernel) rfl)
theorem l_J1_9 : JLk RJ1 9 yJ0_checkIndex_df160 := Or.inl (tb_mem 676 (by decide +kernel) rfl)
theorem l_J2_414 : JLk RJ2 414 yJ0_checkIndex_df160 := Or.inl (tb_mem 693 (by decide +kernel) rfl)
theorem l_J2_48 : JLk RJ2 48 yJ2_length_9d52b := Or.inl (tb_mem 690 (by decide +kernel) rfl)
theorem l_J2_67 : JLk RJ2 67 yJ2_checkIndex_2214a := Or.inl (tb_mem 687 (by decide +kernel) rfl)
theorem l_J2_71 : JLk RJ2 71 yJ2_getChar_3b067 := Or.inl (tb_mem 694 (by decide +kernel) rfl)
theorem tg_X8_init : JTg yX8_init cX8_init 2 none 0 := ⟨tb_mem 97 (by decide +kernel) rfl, tb_mem 76 (by decide +kernel) rfl, by decide +kernel, by decide⟩
theorem ii_X8_init : Cond.instanceMethod yX8_init ∈ TBg ∧ yX8_init.name = "<init>" := ⟨tb_mem 96 (by decide +kernel) rfl, rfl⟩
theorem tg_X6_init : JTg yX6_init cX6_init 1 none 0 := ⟨tb_mem 105 (by decide +kernel) rfl, tb_mem 77 (by decide +kernel) rfl, by decide +kernel, by decide⟩
theorem ii_X6_init : Cond.instanceMethod yX6_init ∈ TBg ∧ yX6_init.name = "<init>" := ⟨tb_mem 104 (by decide +kernel) rfl, rfl⟩
theorem tg_X1_init : JTg yX1_init cX1_init 1 none 0 := ⟨tb_mem 119 (by decide +kernel) rfl, tb_mem 78 (by decide +kernel) rfl, by decide +kernel, by decide⟩
theorem ii_X1_init : Cond.instanceMethod yX1_init ∈ TBg ∧ yX1_init.name = "<init>" := ⟨tb_mem 118 (by decide +kernel) rfl, rfl⟩
theorem tg_X2_init : JTg yX2_init cX2_init 3 none 2 := ⟨tb_mem 134 (by decide +kernel) rfl, tb_mem 79 (by decide +kernel) rfl, by decide +kernel, by decide⟩
theorem ii_X2_init : Cond.instanceMethod yX2_init ∈ TBg ∧ yX2_init.name = "<init>" := ⟨tb_mem 133 (by decide +kernel) rfl, rfl⟩
theorem tg_X3_init : JTg yX3_init cX3_init 2 none 1 := ⟨tb_mem 168 (by decide +kernel) rfl, tb_mem 80 (by decide +kernel) rfl, by decide +kernel, by decide⟩
theorem ii_X3_init : Cond.instanceMethod yX3_init ∈ TBg ∧ yX3_init.name = "<init>" := ⟨tb_mem 167 (by decide +kernel) rfl, rfl⟩
theorem tg_X5_init : JTg yX5_init cX5_init 3 none 2 := ⟨tb_mem 181 (by decide +kernel) rfl, tb_mem 81 (by decide +kernel) rfl, by decide +kernel, by decide⟩
theorem ii_X5_init : Cond.instanceMethod yX5_init ∈ TBg ∧ yX5_init.name = "<init>" := ⟨tb_mem 180 (by decide +kernel) rfl, rfl⟩
theorem tg_X4_init : JTg yX4_init cX4_init 1 none 0 := ⟨tb_mem 216 (by decide +kernel) rfl, tb_mem 82 (by decide +kernel) rfl, by decide +kernel, by decide⟩
theorem ii_X4_init : Cond.instanceMethod yX4_init ∈ TBg ∧ yX4_init.name = "<init>" := ⟨tb_mem 215 (by decide +kernel) rfl, rfl⟩
theorem tg_J7_fill_53178 : JTg yJ7_fill_53178 cJ7_fill_53178 4 none 2 := ⟨tb_mem 250 (by decide +kernel) rfl, tb_mem 83 (by decide +kernel) rfl, by decide +kernel, by decide⟩
theorem st_J7_fill_53178 : Cond.static yJ7_fill_53178 ∈ TBg := tb_mem 249 (by decide +kernel) rfl
theorem tg_X8_feed : JTg yX8_feed cX8_feed 6 (some FieldType.int) 5 := ⟨tb_mem 288 (by decide +kernel) rfl, tb_mem 76 (by decide +kernel) rfl, by decide +kernel, by decide⟩
theorem vi_X8_feed : Cond.instanceMethod yX8_feed ∈ TBg ∧ Cond.selects yX8_feed.cls yX8_feed yX8_feed ∈ TBg := ⟨tb_mem 286 (by decide +kernel) rfl, tb_mem 287 (by decide +kernel) rfl⟩
theorem tg_X6_size : JTg yX6_size cX6_size 1 (some FieldType.int) 0 := ⟨tb_mem 292 (by decide +kernel) rfl, tb_mem 77 (by decide +kernel) rfl, by decide +kernel, by decide⟩
theorem vi_X6_size : Cond.instanceMethod yX6_size ∈ TBg ∧ Cond.selects yX6_size.cls yX6_size yX6_size ∈ TBg := ⟨tb_mem 290 (by decide +kernel) rfl, tb_mem 291 (by decide +kernel) rfl⟩
theorem tg_X6_addFour : JTg yX6_addFour cX6_addFour 2 none 1 := ⟨tb_mem 296 (by decide +kernel) rfl, tb_mem 77 (by decide +kernel) rfl, by decide +kernel, by decide⟩
theorem vi_X6_addFour : Cond.instanceMethod yX6_addFour ∈ TBg ∧ Cond.selects yX6_addFour.cls yX6_addFour yX6_addFour ∈ TBg := ⟨tb_mem 294 (by decide +kernel) rfl, tb_mem 295 (by decide +kernel) rfl⟩
theorem tg_X6_add : JTg yX6_add cX6_add 2 none 1 := ⟨tb_mem 300 (by decide +kernel) rfl, tb_mem 77 (by decide +kernel) rfl, by decide +kernel, by decide⟩
theorem vi_X6_add : Cond.instanceMethod yX6_add ∈ TBg ∧ Cond.selects yX6_add.cls yX6_add yX6_add ∈ TBg := ⟨tb_mem 298 (by decide +kernel) rfl, tb_mem 299 (by decide +kernel) rfl⟩
theorem tg_X8_end : JTg yX8_end cX8_end 2 (some FieldType.int) 1 := ⟨tb_mem 304 (by decide +kernel) rfl, tb_mem 76 (by decide +kernel) rfl, by decide +kernel, by decide⟩
theorem vi_X8_end : Cond.instanceMethod yX8_end ∈ TBg ∧ Cond.selects yX8_end.cls yX8_end yX8_end ∈ TBg := ⟨tb_mem 302 (by decide +kernel) rfl, tb_mem 303 (by decide +kernel) rfl⟩
theorem tg_X6_cutTo : JTg yX6_cutTo cX6_cutTo 2 (some FieldType.boolean) 1 := ⟨tb_mem 308 (by decide +kernel) rfl, tb_mem 77 (by decide +kernel) rfl, by decide +kernel, by decide⟩
theorem vi_X6_cutTo : Cond.instanceMethod yX6_cutTo ∈ TBg ∧ Cond.selects yX6_cutTo.cls yX6_cutTo yX6_cutTo ∈ TBg := ⟨tb_mem 306 (by decide +kernel) rfl, tb_mem 307 (by decide +kernel) rfl⟩
theorem tg_X8_file : JTg yX8_file cX8_file 3 (some FieldType.int) 1 := ⟨tb_mem 312 (by decide +kernel) rfl, tb_mem 76 (by decide +kernel) rfl, by decide +kernel, by decide⟩
theorem vi_X8_file : Cond.instanceMethod yX8_file ∈ TBg ∧ Cond.selects yX8_file.cls yX8_file yX8_file ∈ TBg := ⟨tb_mem 310 (by decide +kernel) rfl, tb_mem 311 (by decide +kernel) rfl⟩
theorem tg_X8_isWithin : JTg yX8_isWithin cX8_isWithin 3 (some FieldType.boolean) 3 := ⟨tb_mem 315 (by decide +kernel) rfl, tb_mem 76 (by decide +kernel) rfl, by decide +kernel, by decide⟩
theorem st_X8_isWithin : Cond.static yX8_isWithin ∈ TBg := tb_mem 314 (by decide +kernel) rfl
theorem tg_X2_readInto : JTg yX2_readInto cX2_readInto 4 (some FieldType.int) 2 := ⟨tb_mem 319 (by decide +kernel) rfl, tb_mem 79 (by decide +kernel) rfl, by decide +kernel, by decide⟩
theorem vi_X2_readInto : Cond.instanceMethod yX2_readInto ∈ TBg ∧ Cond.selects yX2_readInto.cls yX2_readInto yX2_readInto ∈ TBg := ⟨tb_mem 317 (by decide +kernel) rfl, tb_mem 318 (by decide +kernel) rfl⟩
theorem tg_J9_min_7cf53 : JTg yJ9_min_7cf53 cJ9_min_7cf53 2 (some FieldType.int) 2 := ⟨tb_mem 322 (by decide +kernel) rfl, tb_mem 85 (by decide +kernel) rfl, by decide +kernel, by decide⟩
theorem st_J9_min_7cf53 : Cond.static yJ9_min_7cf53 ∈ TBg := tb_mem 321 (by decide +kernel) rfl
theorem tg_X1_start : JTg yX1_start cX1_start 1 none 0 := ⟨tb_mem 329 (by decide +kernel) rfl, tb_mem 78 (by decide +kernel) rfl, by decide +kernel, by decide⟩
theorem vi_X1_start : Cond.instanceMethod yX1_start ∈ TBg ∧ Cond.selects yX1_start.cls yX1_start yX1_start ∈ TBg := ⟨tb_mem 327 (by decide +kernel) rfl, tb_mem 328 (by decide +kernel) rfl⟩
theorem tg_X2_takePlain : JTg yX2_takePlain cX2_takePlain 2 none 0 := ⟨tb_mem 333 (by decide +kernel) rfl, tb_mem 79 (by decide +kernel) rfl, by decide +kernel, by decide⟩
theorem vi_X2_takePlain : Cond.instanceMethod yX2_takePlain ∈ TBg ∧ Cond.selects yX2_takePlain.cls yX2_takePlain yX2_takePlain ∈ TBg := ⟨tb_mem 332 (by decide +kernel) rfl, tb_mem 0 (by decide +kernel) rfl⟩
theorem tg_X1_mark : JTg yX1_mark cX1_mark 3 none 2 := ⟨tb_mem 338 (by decide +kernel) rfl, tb_mem 78 (by decide +kernel) rfl, by decide +kernel, by decide⟩
theorem vi_X1_mark : Cond.instanceMethod yX1_mark ∈ TBg ∧ Cond.selects yX1_mark.cls yX1_mark yX1_mark ∈ TBg := ⟨tb_mem 336 (by decide +kernel) rfl, tb_mem 337 (by decide +kernel) rfl⟩
theorem tg_X6_at : JTg yX6_at cX6_at 2 (some FieldType.int) 1 := ⟨tb_mem 342 (by decide +kernel) rfl, tb_mem 77 (by decide +kernel) rfl, by decide +kernel, by decide⟩
theorem vi_X6_at : Cond.instanceMethod yX6_at ∈ TBg ∧ Cond.selects yX6_at.cls yX6_at yX6_at ∈ TBg := ⟨tb_mem 340 (by decide +kernel) rfl, tb_mem 341 (by decide +kernel) rfl⟩
theorem tg_X2_stage : JTg yX2_stage cX2_stage 3 none 2 := ⟨tb_mem 346 (by decide +kernel) rfl, tb_mem 79 (by decide +kernel) rfl, by decide +kernel, by decide⟩
theorem vi_X2_stage : Cond.instanceMethod yX2_stage ∈ TBg ∧ Cond.selects yX2_stage.cls yX2_stage yX2_stage ∈ TBg := ⟨tb_mem 345 (by decide +kernel) rfl, tb_mem 1 (by decide +kernel) rfl⟩
theorem tg_X2_takeLines : JTg yX2_takeLines cX2_takeLines 5 none 1 := ⟨tb_mem 350 (by decide +kernel) rfl, tb_mem 79 (by decide +kernel) rfl, by decide +kernel, by decide⟩
theorem vi_X2_takeLines : Cond.instanceMethod yX2_takeLines ∈ TBg ∧ Cond.selects yX2_takeLines.cls yX2_takeLines yX2_takeLines ∈ TBg := ⟨tb_mem 349 (by decide +kernel) rfl, tb_mem 2 (by decide +kernel) rfl⟩
theorem tg_X1_isFault : JTg yX1_isFault cX1_isFault 1 (some FieldType.boolean) 0 := ⟨tb_mem 354 (by decide +kernel) rfl, tb_mem 78 (by decide +kernel) rfl, by decide +kernel, by decide⟩
theorem vi_X1_isFault : Cond.instanceMethod yX1_isFault ∈ TBg ∧ Cond.selects yX1_isFault.cls yX1_isFault yX1_isFault ∈ TBg := ⟨tb_mem 352 (by decide +kernel) rfl, tb_mem 353 (by decide +kernel) rfl⟩
theorem tg_X2_stopOf : JTg yX2_stopOf cX2_stopOf 4 (some FieldType.int) 2 := ⟨tb_mem 358 (by decide +kernel) rfl, tb_mem 79 (by decide +kernel) rfl, by decide +kernel, by decide⟩
theorem vi_X2_stopOf : Cond.instanceMethod yX2_stopOf ∈ TBg ∧ Cond.selects yX2_stopOf.cls yX2_stopOf yX2_stopOf ∈ TBg := ⟨tb_mem 357 (by decide +kernel) rfl, tb_mem 3 (by decide +kernel) rfl⟩
theorem tg_X2_takeLine : JTg yX2_takeLine cX2_takeLine 5 none 3 := ⟨tb_mem 362 (by decide +kernel) rfl, tb_mem 79 (by decide +kernel) rfl, by decide +kernel, by decide⟩
theorem vi_X2_takeLine : Cond.instanceMethod yX2_takeLine ∈ TBg ∧ Cond.selects yX2_takeLine.cls yX2_takeLine yX2_takeLine ∈ TBg := ⟨tb_mem 361 (by decide +kernel) rfl, tb_mem 4 (by decide +kernel) rfl⟩
theorem tg_X2_isColonLine : JTg yX2_isColonLine cX2_isColonLine 5 (some FieldType.boolean) 2 := ⟨tb_mem 366 (by decide +kernel) rfl, tb_mem 79 (by decide +kernel) rfl, by decide +kernel, by decide⟩
theorem vi_X2_isColonLine : Cond.instanceMethod yX2_isColonLine ∈ TBg ∧ Cond.selects yX2_isColonLine.cls yX2_isColonLine yX2_isColonLine ∈ TBg := ⟨tb_mem 365 (by decide +kernel) rfl, tb_mem 5 (by decide +kernel) rfl⟩
theorem tg_X2_areDigits : JTg yX2_areDigits cX2_areDigits 4 (some FieldType.boolean) 2 := ⟨tb_mem 370 (by decide +kernel) rfl, tb_mem 79 (by decide +kernel) rfl, by decide +kernel, by decide⟩
theorem vi_X2_areDigits : Cond.instanceMethod yX2_areDigits ∈ TBg ∧ Cond.selects yX2_areDigits.cls yX2_areDigits yX2_areDigits ∈ TBg := ⟨tb_mem 369 (by decide +kernel) rfl, tb_mem 6 (by decide +kernel) rfl⟩
theorem tg_X6_digitAt : JTg yX6_digitAt cX6_digitAt 3 (some FieldType.int) 1 := ⟨tb_mem 374 (by decide +kernel) rfl, tb_mem 77 (by decide +kernel) rfl, by decide +kernel, by decide⟩
theorem vi_X6_digitAt : Cond.instanceMethod yX6_digitAt ∈ TBg ∧ Cond.selects yX6_digitAt.cls yX6_digitAt yX6_digitAt ∈ TBg := ⟨tb_mem 372 (by decide +kernel) rfl, tb_mem 373 (by decide +kernel) rfl⟩
theorem tg_X6_pairAt : JTg yX6_pairAt cX6_pairAt 2 (some FieldType.int) 1 := ⟨tb_mem 379 (by decide +kernel) rfl, tb_mem 77 (by decide +kernel) rfl, by decide +kernel, by decide⟩
theorem vi_X6_pairAt : Cond.instanceMethod yX6_pairAt ∈ TBg ∧ Cond.selects yX6_pairAt.cls yX6_pairAt yX6_pairAt ∈ TBg := ⟨tb_mem 377 (by decide +kernel) rfl, tb_mem 378 (by decide +kernel) rfl⟩
theorem tg_X2_isSLine : JTg yX2_isSLine cX2_isSLine 5 (some FieldType.boolean) 2 := ⟨tb_mem 384 (by decide +kernel) rfl, tb_mem 79 (by decide +kernel) rfl, by decide +kernel, by decide⟩
theorem vi_X2_isSLine : Cond.instanceMethod yX2_isSLine ∈ TBg ∧ Cond.selects yX2_isSLine.cls yX2_isSLine yX2_isSLine ∈ TBg := ⟨tb_mem 383 (by decide +kernel) rfl, tb_mem 7 (by decide +kernel) rfl⟩
theorem tg_X2_sumOf : JTg yX2_sumOf cX2_sumOf 5 (some FieldType.int) 2 := ⟨tb_mem 388 (by decide +kernel) rfl, tb_mem 79 (by decide +kernel) rfl, by decide +kernel, by decide⟩
theorem vi_X2_sumOf : Cond.instanceMethod yX2_sumOf ∈ TBg ∧ Cond.selects yX2_sumOf.cls yX2_sumOf yX2_sumOf ∈ TBg := ⟨tb_mem 387 (by decide +kernel) rfl, tb_mem 8 (by decide +kernel) rfl⟩
theorem tg_X2_takeData : JTg yX2_takeData cX2_takeData 3 none 1 := ⟨tb_mem 392 (by decide +kernel) rfl, tb_mem 79 (by decide +kernel) rfl, by decide +kernel, by decide⟩
theorem vi_X2_takeData : Cond.instanceMethod yX2_takeData ∈ TBg ∧ Cond.selects yX2_takeData.cls yX2_takeData yX2_takeData ∈ TBg := ⟨tb_mem 391 (by decide +kernel) rfl, tb_mem 9 (by decide +kernel) rfl⟩
theorem tg_J9_min_f86c9 : JTg yJ9_min_f86c9 cJ9_min_f86c9 4 (some FieldType.long) 2 := ⟨tb_mem 396 (by decide +kernel) rfl, tb_mem 85 (by decide +kernel) rfl, by decide +kernel, by decide⟩
theorem st_J9_min_f86c9 : Cond.static yJ9_min_f86c9 ∈ TBg := tb_mem 395 (by decide +kernel) rfl
theorem tg_X8_fault : JTg yX8_fault cX8_fault 2 (some FieldType.int) 1 := ⟨tb_mem 400 (by decide +kernel) rfl, tb_mem 76 (by decide +kernel) rfl, by decide +kernel, by decide⟩
theorem vi_X8_fault : Cond.instanceMethod yX8_fault ∈ TBg ∧ Cond.selects yX8_fault.cls yX8_fault yX8_fault ∈ TBg := ⟨tb_mem 398 (by decide +kernel) rfl, tb_mem 399 (by decide +kernel) rfl⟩
theorem tg_X8_write : JTg yX8_write cX8_write 4 (some FieldType.int) 3 := ⟨tb_mem 404 (by decide +kernel) rfl, tb_mem 76 (by decide +kernel) rfl, by decide +kernel, by decide⟩
theorem vi_X8_write : Cond.instanceMethod yX8_write ∈ TBg ∧ Cond.selects yX8_write.cls yX8_write yX8_write ∈ TBg := ⟨tb_mem 402 (by decide +kernel) rfl, tb_mem 403 (by decide +kernel) rfl⟩
theorem tg_X3_lengthOf : JTg yX3_lengthOf cX3_lengthOf 5 (some FieldType.int) 2 := ⟨tb_mem 408 (by decide +kernel) rfl, tb_mem 80 (by decide +kernel) rfl, by decide +kernel, by decide⟩
theorem vi_X3_lengthOf : Cond.instanceMethod yX3_lengthOf ∈ TBg ∧ Cond.selects yX3_lengthOf.cls yX3_lengthOf yX3_lengthOf ∈ TBg := ⟨tb_mem 406 (by decide +kernel) rfl, tb_mem 407 (by decide +kernel) rfl⟩
theorem tg_X3_writeOut : JTg yX3_writeOut cX3_writeOut 8 none 4 := ⟨tb_mem 412 (by decide +kernel) rfl, tb_mem 80 (by decide +kernel) rfl, by decide +kernel, by decide⟩
theorem vi_X3_writeOut : Cond.instanceMethod yX3_writeOut ∈ TBg ∧ Cond.selects yX3_writeOut.cls yX3_writeOut yX3_writeOut ∈ TBg := ⟨tb_mem 410 (by decide +kernel) rfl, tb_mem 411 (by decide +kernel) rfl⟩
theorem tg_X3_startLine : JTg yX3_startLine cX3_startLine 5 none 4 := ⟨tb_mem 418 (by decide +kernel) rfl, tb_mem 80 (by decide +kernel) rfl, by decide +kernel, by decide⟩
theorem vi_X3_startLine : Cond.instanceMethod yX3_startLine ∈ TBg ∧ Cond.selects yX3_startLine.cls yX3_startLine yX3_startLine ∈ TBg := ⟨tb_mem 417 (by decide +kernel) rfl, tb_mem 10 (by decide +kernel) rfl⟩
theorem tg_X3_addByte : JTg yX3_addByte cX3_addByte 2 none 1 := ⟨tb_mem 423 (by decide +kernel) rfl, tb_mem 80 (by decide +kernel) rfl, by decide +kernel, by decide⟩
theorem vi_X3_addByte : Cond.instanceMethod yX3_addByte ∈ TBg ∧ Cond.selects yX3_addByte.cls yX3_addByte yX3_addByte ∈ TBg := ⟨tb_mem 422 (by decide +kernel) rfl, tb_mem 11 (by decide +kernel) rfl⟩
theorem tg_X6_addDigit : JTg yX6_addDigit cX6_addDigit 2 none 1 := ⟨tb_mem 427 (by decide +kernel) rfl, tb_mem 77 (by decide +kernel) rfl, by decide +kernel, by decide⟩
theorem vi_X6_addDigit : Cond.instanceMethod yX6_addDigit ∈ TBg ∧ Cond.selects yX6_addDigit.cls yX6_addDigit yX6_addDigit ∈ TBg := ⟨tb_mem 425 (by decide +kernel) rfl, tb_mem 426 (by decide +kernel) rfl⟩
theorem tg_X3_addAddress : JTg yX3_addAddress cX3_addAddress 2 none 1 := ⟨tb_mem 431 (by decide +kernel) rfl, tb_mem 80 (by decide +kernel) rfl, by decide +kernel, by decide⟩
theorem vi_X3_addAddress : Cond.instanceMethod yX3_addAddress ∈ TBg ∧ Cond.selects yX3_addAddress.cls yX3_addAddress yX3_addAddress ∈ TBg := ⟨tb_mem 430 (by decide +kernel) rfl, tb_mem 12 (by decide +kernel) rfl⟩
theorem tg_X3_stopLine : JTg yX3_stopLine cX3_stopLine 2 none 1 := ⟨tb_mem 435 (by decide +kernel) rfl, tb_mem 80 (by decide +kernel) rfl, by decide +kernel, by decide⟩
theorem vi_X3_stopLine : Cond.instanceMethod yX3_stopLine ∈ TBg ∧ Cond.selects yX3_stopLine.cls yX3_stopLine yX3_stopLine ∈ TBg := ⟨tb_mem 434 (by decide +kernel) rfl, tb_mem 13 (by decide +kernel) rfl⟩
theorem tg_X8_tape : JTg yX8_tape cX8_tape 2 (some FieldType.int) 1 := ⟨tb_mem 439 (by decide +kernel) rfl, tb_mem 76 (by decide +kernel) rfl, by decide +kernel, by decide⟩
theorem vi_X8_tape : Cond.instanceMethod yX8_tape ∈ TBg ∧ Cond.selects yX8_tape.cls yX8_tape yX8_tape ∈ TBg := ⟨tb_mem 437 (by decide +kernel) rfl, tb_mem 438 (by decide +kernel) rfl⟩
theorem tg_X8_image : JTg yX8_image cX8_image 2 (some FieldType.int) 1 := ⟨tb_mem 444 (by decide +kernel) rfl, tb_mem 76 (by decide +kernel) rfl, by decide +kernel, by decide⟩
theorem vi_X8_image : Cond.instanceMethod yX8_image ∈ TBg ∧ Cond.selects yX8_image.cls yX8_image yX8_image ∈ TBg := ⟨tb_mem 442 (by decide +kernel) rfl, tb_mem 443 (by decide +kernel) rfl⟩
theorem tg_X8_fill : JTg yX8_fill cX8_fill 2 (some FieldType.boolean) 1 := ⟨tb_mem 448 (by decide +kernel) rfl, tb_mem 76 (by decide +kernel) rfl, by decide +kernel, by decide⟩
theorem vi_X8_fill : Cond.instanceMethod yX8_fill ∈ TBg ∧ Cond.selects yX8_fill.cls yX8_fill yX8_fill ∈ TBg := ⟨tb_mem 446 (by decide +kernel) rfl, tb_mem 447 (by decide +kernel) rfl⟩
theorem tg_X8_chip : JTg yX8_chip cX8_chip 11 (some FieldType.int) 8 := ⟨tb_mem 452 (by decide +kernel) rfl, tb_mem 76 (by decide +kernel) rfl, by decide +kernel, by decide⟩
theorem vi_X8_chip : Cond.instanceMethod yX8_chip ∈ TBg ∧ Cond.selects yX8_chip.cls yX8_chip yX8_chip ∈ TBg := ⟨tb_mem 450 (by decide +kernel) rfl, tb_mem 451 (by decide +kernel) rfl⟩
theorem tg_X8_isSize : JTg yX8_isSize cX8_isSize 1 (some FieldType.boolean) 1 := ⟨tb_mem 455 (by decide +kernel) rfl, tb_mem 76 (by decide +kernel) rfl, by decide +kernel, by decide⟩
theorem st_X8_isSize : Cond.static yX8_isSize ∈ TBg := tb_mem 454 (by decide +kernel) rfl
theorem tg_X0_init : JTg yX0_init cX0_init 4 none 3 := ⟨tb_mem 459 (by decide +kernel) rfl, tb_mem 87 (by decide +kernel) rfl, by decide +kernel, by decide⟩
theorem ii_X0_init : Cond.instanceMethod yX0_init ∈ TBg ∧ yX0_init.name = "<init>" := ⟨tb_mem 458 (by decide +kernel) rfl, rfl⟩
theorem tg_X0_setLimits : JTg yX0_setLimits cX0_setLimits 4 none 3 := ⟨tb_mem 523 (by decide +kernel) rfl, tb_mem 87 (by decide +kernel) rfl, by decide +kernel, by decide⟩
theorem vi_X0_setLimits : Cond.instanceMethod yX0_setLimits ∈ TBg ∧ Cond.selects yX0_setLimits.cls yX0_setLimits yX0_setLimits ∈ TBg := ⟨tb_mem 521 (by decide +kernel) rfl, tb_mem 522 (by decide +kernel) rfl⟩
theorem tg_X0_setWear : JTg yX0_setWear cX0_setWear 3 none 2 := ⟨tb_mem 527 (by decide +kernel) rfl, tb_mem 87 (by decide +kernel) rfl, by decide +kernel, by decide⟩
theorem vi_X0_setWear : Cond.instanceMethod yX0_setWear ∈ TBg ∧ Cond.selects yX0_setWear.cls yX0_setWear yX0_setWear ∈ TBg := ⟨tb_mem 525 (by decide +kernel) rfl, tb_mem 526 (by decide +kernel) rfl⟩
theorem tg_X8_need : JTg yX8_need cX8_need 5 (some FieldType.boolean) 3 := ⟨tb_mem 531 (by decide +kernel) rfl, tb_mem 76 (by decide +kernel) rfl, by decide +kernel, by decide⟩
theorem vi_X8_need : Cond.instanceMethod yX8_need ∈ TBg ∧ Cond.selects yX8_need.cls yX8_need yX8_need ∈ TBg := ⟨tb_mem 529 (by decide +kernel) rfl, tb_mem 530 (by decide +kernel) rfl⟩
theorem tg_X8_chipAt : JTg yX8_chipAt cX8_chipAt 2 (some (FieldType.object "ChipBurner$Chip")) 1 := ⟨tb_mem 535 (by decide +kernel) rfl, tb_mem 76 (by decide +kernel) rfl, by decide +kernel, by decide⟩
theorem vi_X8_chipAt : Cond.instanceMethod yX8_chipAt ∈ TBg ∧ Cond.selects yX8_chipAt.cls yX8_chipAt yX8_chipAt ∈ TBg := ⟨tb_mem 534 (by decide +kernel) rfl, tb_mem 14 (by decide +kernel) rfl⟩
theorem tg_X0_setNeed : JTg yX0_setNeed cX0_setNeed 3 (some FieldType.boolean) 2 := ⟨tb_mem 539 (by decide +kernel) rfl, tb_mem 87 (by decide +kernel) rfl, by decide +kernel, by decide⟩
theorem vi_X0_setNeed : Cond.instanceMethod yX0_setNeed ∈ TBg ∧ Cond.selects yX0_setNeed.cls yX0_setNeed yX0_setNeed ∈ TBg := ⟨tb_mem 537 (by decide +kernel) rfl, tb_mem 538 (by decide +kernel) rfl⟩
theorem tg_X0_isAddress : JTg yX0_isAddress cX0_isAddress 2 (some FieldType.boolean) 1 := ⟨tb_mem 543 (by decide +kernel) rfl, tb_mem 87 (by decide +kernel) rfl, by decide +kernel, by decide⟩
theorem vi_X0_isAddress : Cond.instanceMethod yX0_isAddress ∈ TBg ∧ Cond.selects yX0_isAddress.cls yX0_isAddress yX0_isAddress ∈ TBg := ⟨tb_mem 542 (by decide +kernel) rfl, tb_mem 15 (by decide +kernel) rfl⟩
theorem tg_X8_bad : JTg yX8_bad cX8_bad 5 (some FieldType.boolean) 3 := ⟨tb_mem 547 (by decide +kernel) rfl, tb_mem 76 (by decide +kernel) rfl, by decide +kernel, by decide⟩
theorem vi_X8_bad : Cond.instanceMethod yX8_bad ∈ TBg ∧ Cond.selects yX8_bad.cls yX8_bad yX8_bad ∈ TBg := ⟨tb_mem 545 (by decide +kernel) rfl, tb_mem 546 (by decide +kernel) rfl⟩
theorem tg_X0_setBad : JTg yX0_setBad cX0_setBad 3 (some FieldType.boolean) 2 := ⟨tb_mem 551 (by decide +kernel) rfl, tb_mem 87 (by decide +kernel) rfl, by decide +kernel, by decide⟩
theorem vi_X0_setBad : Cond.instanceMethod yX0_setBad ∈ TBg ∧ Cond.selects yX0_setBad.cls yX0_setBad yX0_setBad ∈ TBg := ⟨tb_mem 549 (by decide +kernel) rfl, tb_mem 550 (by decide +kernel) rfl⟩
theorem tg_X0_blockCount : JTg yX0_blockCount cX0_blockCount 1 (some FieldType.int) 0 := ⟨tb_mem 555 (by decide +kernel) rfl, tb_mem 87 (by decide +kernel) rfl, by decide +kernel, by decide⟩
theorem vi_X0_blockCount : Cond.instanceMethod yX0_blockCount ∈ TBg ∧ Cond.selects yX0_blockCount.cls yX0_blockCount yX0_blockCount ∈ TBg := ⟨tb_mem 554 (by decide +kernel) rfl, tb_mem 16 (by decide +kernel) rfl⟩
theorem tg_X8_contact : JTg yX8_contact cX8_contact 5 (some FieldType.boolean) 3 := ⟨tb_mem 560 (by decide +kernel) rfl, tb_mem 76 (by decide +kernel) rfl, by decide +kernel, by decide⟩
theorem vi_X8_contact : Cond.instanceMethod yX8_contact ∈ TBg ∧ Cond.selects yX8_contact.cls yX8_contact yX8_contact ∈ TBg := ⟨tb_mem 558 (by decide +kernel) rfl, tb_mem 559 (by decide +kernel) rfl⟩
theorem tg_X0_setContact : JTg yX0_setContact cX0_setContact 3 (some FieldType.boolean) 2 := ⟨tb_mem 564 (by decide +kernel) rfl, tb_mem 87 (by decide +kernel) rfl, by decide +kernel, by decide⟩
theorem vi_X0_setContact : Cond.instanceMethod yX0_setContact ∈ TBg ∧ Cond.selects yX0_setContact.cls yX0_setContact yX0_setContact ∈ TBg := ⟨tb_mem 562 (by decide +kernel) rfl, tb_mem 563 (by decide +kernel) rfl⟩
theorem tg_X8_erase : JTg yX8_erase cX8_erase 3 (some FieldType.int) 1 := ⟨tb_mem 568 (by decide +kernel) rfl, tb_mem 76 (by decide +kernel) rfl, by decide +kernel, by decide⟩
theorem vi_X8_erase : Cond.instanceMethod yX8_erase ∈ TBg ∧ Cond.selects yX8_erase.cls yX8_erase yX8_erase ∈ TBg := ⟨tb_mem 566 (by decide +kernel) rfl, tb_mem 567 (by decide +kernel) rfl⟩
theorem tg_X0_wipe : JTg yX0_wipe cX0_wipe 2 none 0 := ⟨tb_mem 572 (by decide +kernel) rfl, tb_mem 87 (by decide +kernel) rfl, by decide +kernel, by decide⟩
theorem vi_X0_wipe : Cond.instanceMethod yX0_wipe ∈ TBg ∧ Cond.selects yX0_wipe.cls yX0_wipe yX0_wipe ∈ TBg := ⟨tb_mem 570 (by decide +kernel) rfl, tb_mem 571 (by decide +kernel) rfl⟩
theorem tg_X8_chipOf : JTg yX8_chipOf cX8_chipOf 4 (some FieldType.int) 2 := ⟨tb_mem 576 (by decide +kernel) rfl, tb_mem 76 (by decide +kernel) rfl, by decide +kernel, by decide⟩
theorem vi_X8_chipOf : Cond.instanceMethod yX8_chipOf ∈ TBg ∧ Cond.selects yX8_chipOf.cls yX8_chipOf yX8_chipOf ∈ TBg := ⟨tb_mem 574 (by decide +kernel) rfl, tb_mem 575 (by decide +kernel) rfl⟩
theorem tg_X0_property : JTg yX0_property cX0_property 2 (some FieldType.int) 1 := ⟨tb_mem 580 (by decide +kernel) rfl, tb_mem 87 (by decide +kernel) rfl, by decide +kernel, by decide⟩
theorem vi_X0_property : Cond.instanceMethod yX0_property ∈ TBg ∧ Cond.selects yX0_property.cls yX0_property yX0_property ∈ TBg := ⟨tb_mem 578 (by decide +kernel) rfl, tb_mem 579 (by decide +kernel) rfl⟩
theorem tg_X0_logicalCount : JTg yX0_logicalCount cX0_logicalCount 3 (some FieldType.int) 0 := ⟨tb_mem 584 (by decide +kernel) rfl, tb_mem 87 (by decide +kernel) rfl, by decide +kernel, by decide⟩
theorem vi_X0_logicalCount : Cond.instanceMethod yX0_logicalCount ∈ TBg ∧ Cond.selects yX0_logicalCount.cls yX0_logicalCount yX0_logicalCount ∈ TBg := ⟨tb_mem 582 (by decide +kernel) rfl, tb_mem 583 (by decide +kernel) rfl⟩
theorem tg_X0_firstLackingPin : JTg yX0_firstLackingPin cX0_firstLackingPin 2 (some FieldType.int) 0 := ⟨tb_mem 588 (by decide +kernel) rfl, tb_mem 87 (by decide +kernel) rfl, by decide +kernel, by decide⟩
theorem vi_X0_firstLackingPin : Cond.instanceMethod yX0_firstLackingPin ∈ TBg ∧ Cond.selects yX0_firstLackingPin.cls yX0_firstLackingPin yX0_firstLackingPin ∈ TBg := ⟨tb_mem 586 (by decide +kernel) rfl, tb_mem 587 (by decide +kernel) rfl⟩
theorem tg_X0_cell : JTg yX0_cell cX0_cell 3 (some FieldType.int) 2 := ⟨tb_mem 592 (by decide +kernel) rfl, tb_mem 87 (by decide +kernel) rfl, by decide +kernel, by decide⟩
theorem vi_X0_cell : Cond.instanceMethod yX0_cell ∈ TBg ∧ Cond.selects yX0_cell.cls yX0_cell yX0_cell ∈ TBg := ⟨tb_mem 590 (by decide +kernel) rfl, tb_mem 591 (by decide +kernel) rfl⟩
theorem tg_X0_addressOf : JTg yX0_addressOf cX0_addressOf 4 (some FieldType.int) 1 := ⟨tb_mem 596 (by decide +kernel) rfl, tb_mem 87 (by decide +kernel) rfl, by decide +kernel, by decide⟩
theorem vi_X0_addressOf : Cond.instanceMethod yX0_addressOf ∈ TBg ∧ Cond.selects yX0_addressOf.cls yX0_addressOf yX0_addressOf ∈ TBg := ⟨tb_mem 594 (by decide +kernel) rfl, tb_mem 595 (by decide +kernel) rfl⟩
theorem tg_X8_recipe : JTg yX8_recipe cX8_recipe 4 (some FieldType.int) 1 := ⟨tb_mem 600 (by decide +kernel) rfl, tb_mem 76 (by decide +kernel) rfl, by decide +kernel, by decide⟩
theorem vi_X8_recipe : Cond.instanceMethod yX8_recipe ∈ TBg ∧ Cond.selects yX8_recipe.cls yX8_recipe yX8_recipe ∈ TBg := ⟨tb_mem 598 (by decide +kernel) rfl, tb_mem 599 (by decide +kernel) rfl⟩
theorem tg_X5_readInto : JTg yX5_readInto cX5_readInto 4 (some FieldType.boolean) 1 := ⟨tb_mem 604 (by decide +kernel) rfl, tb_mem 81 (by decide +kernel) rfl, by decide +kernel, by decide⟩
theorem vi_X5_readInto : Cond.instanceMethod yX5_readInto ∈ TBg ∧ Cond.selects yX5_readInto.cls yX5_readInto yX5_readInto ∈ TBg := ⟨tb_mem 602 (by decide +kernel) rfl, tb_mem 603 (by decide +kernel) rfl⟩
theorem tg_X4_clear : JTg yX4_clear cX4_clear 1 none 0 := ⟨tb_mem 611 (by decide +kernel) rfl, tb_mem 82 (by decide +kernel) rfl, by decide +kernel, by decide⟩
theorem vi_X4_clear : Cond.instanceMethod yX4_clear ∈ TBg ∧ Cond.selects yX4_clear.cls yX4_clear yX4_clear ∈ TBg := ⟨tb_mem 609 (by decide +kernel) rfl, tb_mem 610 (by decide +kernel) rfl⟩
theorem tg_X5_nextToken : JTg yX5_nextToken cX5_nextToken 1 none 0 := ⟨tb_mem 615 (by decide +kernel) rfl, tb_mem 81 (by decide +kernel) rfl, by decide +kernel, by decide⟩
theorem vi_X5_nextToken : Cond.instanceMethod yX5_nextToken ∈ TBg ∧ Cond.selects yX5_nextToken.cls yX5_nextToken yX5_nextToken ∈ TBg := ⟨tb_mem 614 (by decide +kernel) rfl, tb_mem 17 (by decide +kernel) rfl⟩
theorem tg_X5_behindBlanks : JTg yX5_behindBlanks cX5_behindBlanks 3 (some FieldType.int) 1 := ⟨tb_mem 619 (by decide +kernel) rfl, tb_mem 81 (by decide +kernel) rfl, by decide +kernel, by decide⟩
theorem vi_X5_behindBlanks : Cond.instanceMethod yX5_behindBlanks ∈ TBg ∧ Cond.selects yX5_behindBlanks.cls yX5_behindBlanks yX5_behindBlanks ∈ TBg := ⟨tb_mem 618 (by decide +kernel) rfl, tb_mem 18 (by decide +kernel) rfl⟩
theorem tg_X5_kindOfByte : JTg yX5_kindOfByte cX5_kindOfByte 1 (some FieldType.int) 1 := ⟨tb_mem 623 (by decide +kernel) rfl, tb_mem 81 (by decide +kernel) rfl, by decide +kernel, by decide⟩
theorem st_X5_kindOfByte : Cond.static yX5_kindOfByte ∈ TBg := tb_mem 622 (by decide +kernel) rfl
theorem tg_X5_behindSame : JTg yX5_behindSame cX5_behindSame 4 (some FieldType.int) 2 := ⟨tb_mem 628 (by decide +kernel) rfl, tb_mem 81 (by decide +kernel) rfl, by decide +kernel, by decide⟩
theorem vi_X5_behindSame : Cond.instanceMethod yX5_behindSame ∈ TBg ∧ Cond.selects yX5_behindSame.cls yX5_behindSame yX5_behindSame ∈ TBg := ⟨tb_mem 627 (by decide +kernel) rfl, tb_mem 19 (by decide +kernel) rfl⟩
theorem tg_X5_isSign : JTg yX5_isSign cX5_isSign 2 (some FieldType.boolean) 1 := ⟨tb_mem 632 (by decide +kernel) rfl, tb_mem 81 (by decide +kernel) rfl, by decide +kernel, by decide⟩
theorem vi_X5_isSign : Cond.instanceMethod yX5_isSign ∈ TBg ∧ Cond.selects yX5_isSign.cls yX5_isSign yX5_isSign ∈ TBg := ⟨tb_mem 631 (by decide +kernel) rfl, tb_mem 20 (by decide +kernel) rfl⟩
theorem tg_X5_takeClosing : JTg yX5_takeClosing cX5_takeClosing 3 (some FieldType.boolean) 1 := ⟨tb_mem 636 (by decide +kernel) rfl, tb_mem 81 (by decide +kernel) rfl, by decide +kernel, by decide⟩
theorem vi_X5_takeClosing : Cond.instanceMethod yX5_takeClosing ∈ TBg ∧ Cond.selects yX5_takeClosing.cls yX5_takeClosing yX5_takeClosing ∈ TBg := ⟨tb_mem 635 (by decide +kernel) rfl, tb_mem 21 (by decide +kernel) rfl⟩
theorem tg_X5_refuse : JTg yX5_refuse cX5_refuse 2 (some FieldType.boolean) 1 := ⟨tb_mem 641 (by decide +kernel) rfl, tb_mem 81 (by decide +kernel) rfl, by decide +kernel, by decide⟩
theorem vi_X5_refuse : Cond.instanceMethod yX5_refuse ∈ TBg ∧ Cond.selects yX5_refuse.cls yX5_refuse yX5_refuse ∈ TBg := ⟨tb_mem 640 (by decide +kernel) rfl, tb_mem 22 (by decide +kernel) rfl⟩
theorem tg_X4_close : JTg yX4_close cX4_close 2 none 1 := ⟨tb_mem 645 (by decide +kernel) rfl, tb_mem 82 (by decide +kernel) rfl, by decide +kernel, by decide⟩
theorem vi_X4_close : Cond.instanceMethod yX4_close ∈ TBg ∧ Cond.selects yX4_close.cls yX4_close yX4_close ∈ TBg := ⟨tb_mem 643 (by decide +kernel) rfl, tb_mem 644 (by decide +kernel) rfl⟩
theorem tg_X4_isStep : JTg yX4_isStep cX4_isStep 2 (some FieldType.boolean) 1 := ⟨tb_mem 649 (by decide +kernel) rfl, tb_mem 82 (by decide +kernel) rfl, by decide +kernel, by decide⟩
theorem vi_X4_isStep : Cond.instanceMethod yX4_isStep ∈ TBg ∧ Cond.selects yX4_isStep.cls yX4_isStep yX4_isStep ∈ TBg := ⟨tb_mem 648 (by decide +kernel) rfl, tb_mem 23 (by decide +kernel) rfl⟩
theorem tg_X5_isWord : JTg yX5_isWord cX5_isWord 3 (some FieldType.boolean) 1 := ⟨tb_mem 654 (by decide +kernel) rfl, tb_mem 81 (by decide +kernel) rfl, by decide +kernel, by decide⟩
theorem vi_X5_isWord : Cond.instanceMethod yX5_isWord ∈ TBg ∧ Cond.selects yX5_isWord.cls yX5_isWord yX5_isWord ∈ TBg := ⟨tb_mem 653 (by decide +kernel) rfl, tb_mem 24 (by decide +kernel) rfl⟩
theorem tg_J0_length_8abf5 : JTg yJ0_length_8abf5 cJ0_length_8abf5 1 (some FieldType.int) 0 := ⟨tb_mem 658 (by decide +kernel) rfl, tb_mem 88 (by decide +kernel) rfl, by decide +kernel, by decide⟩
theorem vi_J0_length_8abf5 : Cond.instanceMethod yJ0_length_8abf5 ∈ TBg ∧ Cond.selects yJ0_length_8abf5.cls yJ0_length_8abf5 yJ0_length_8abf5 ∈ TBg := ⟨tb_mem 656 (by decide +kernel) rfl, tb_mem 657 (by decide +kernel) rfl⟩
theorem tg_J0_coder_7d493 : JTg yJ0_coder_7d493 cJ0_coder_7d493 1 (some FieldType.byte) 0 := ⟨tb_mem 662 (by decide +kernel) rfl, tb_mem 88 (by decide +kernel) rfl, by decide +kernel, by decide⟩
theorem vi_J0_coder_7d493 : Cond.instanceMethod yJ0_coder_7d493 ∈ TBg ∧ Cond.selects yJ0_coder_7d493.cls yJ0_coder_7d493 yJ0_coder_7d493 ∈ TBg := ⟨tb_mem 660 (by decide +kernel) rfl, tb_mem 661 (by decide +kernel) rfl⟩
theorem tg_J0_charAt_5068e : JTg yJ0_charAt_5068e cJ0_charAt_5068e 2 (some FieldType.char) 1 := ⟨tb_mem 668 (by decide +kernel) rfl, tb_mem 88 (by decide +kernel) rfl, by decide +kernel, by decide⟩
theorem vi_J0_charAt_5068e : Cond.instanceMethod yJ0_charAt_5068e ∈ TBg ∧ Cond.selects yJ0_charAt_5068e.cls yJ0_charAt_5068e yJ0_charAt_5068e ∈ TBg := ⟨tb_mem 666 (by decide +kernel) rfl, tb_mem 667 (by decide +kernel) rfl⟩
theorem tg_J0_isLatin1_aae02 : JTg yJ0_isLatin1_aae02 cJ0_isLatin1_aae02 1 (some FieldType.boolean) 0 := ⟨tb_mem 672 (by decide +kernel) rfl, tb_mem 88 (by decide +kernel) rfl, by decide +kernel, by decide⟩
theorem vi_J0_isLatin1_aae02 : Cond.instanceMethod yJ0_isLatin1_aae02 ∈ TBg ∧ Cond.selects yJ0_isLatin1_aae02.cls yJ0_isLatin1_aae02 yJ0_isLatin1_aae02 ∈ TBg := ⟨tb_mem 670 (by decide +kernel) rfl, tb_mem 671 (by decide +kernel) rfl⟩
theorem tg_J1_charAt_3b067 : JTg yJ1_charAt_3b067 cJ1_charAt_3b067 2 (some FieldType.char) 2 := ⟨tb_mem 675 (by decide +kernel) rfl, tb_mem 89 (by decide +kernel) rfl, by decide +kernel, by decide⟩
theorem st_J1_charAt_3b067 : Cond.static yJ1_charAt_3b067 ∈ TBg := tb_mem 674 (by decide +kernel) rfl
theorem tg_J0_checkIndex_df160 : JTg yJ0_checkIndex_df160 cJ0_checkIndex_df160 2 none 2 := ⟨tb_mem 678 (by decide +kernel) rfl, tb_mem 88 (by decide +kernel) rfl, by decide +kernel, by decide⟩
theorem st_J0_checkIndex_df160 : Cond.static yJ0_checkIndex_df160 ∈ TBg := tb_mem 677 (by decide +kernel) rfl
theorem tg_J3_checkIndex_8e157 : JTg yJ3_checkIndex_8e157 cJ3_checkIndex_8e157 3 (some FieldType.int) 3 := ⟨tb_mem 683 (by decide +kernel) rfl, tb_mem 90 (by decide +kernel) rfl, by decide +kernel, by decide⟩
theorem st_J3_checkIndex_8e157 : Cond.static yJ3_checkIndex_8e157 ∈ TBg := tb_mem 682 (by decide +kernel) rfl
theorem tg_J2_charAt_3b067 : JTg yJ2_charAt_3b067 cJ2_charAt_3b067 2 (some FieldType.char) 2 := ⟨tb_mem 686 (by decide +kernel) rfl, tb_mem 91 (by decide +kernel) rfl, by decide +kernel, by decide⟩
theorem st_J2_charAt_3b067 : Cond.static yJ2_charAt_3b067 ∈ TBg := tb_mem 685 (by decide +kernel) rfl
theorem tg_J2_checkIndex_2214a : JTg yJ2_checkIndex_2214a cJ2_checkIndex_2214a 2 none 2 := ⟨tb_mem 689 (by decide +kernel) rfl, tb_mem 91 (by decide +kernel) rfl, by decide +kernel, by decide⟩
theorem st_J2_checkIndex_2214a : Cond.static yJ2_checkIndex_2214a ∈ TBg := tb_mem 688 (by decide +kernel) rfl
theorem tg_J2_length_9d52b : JTg yJ2_length_9d52b cJ2_length_9d52b 1 (some FieldType.int) 1 := ⟨tb_mem 692 (by decide +kernel) rfl, tb_mem 91 (by decide +kernel) rfl, by decide +kernel, by decide⟩
theorem st_J2_length_9d52b : Cond.static yJ2_length_9d52b ∈ TBg := tb_mem 691 (by decide +kernel) rfl
theorem tg_J2_getChar_3b067 : JTg yJ2_getChar_3b067 cJ2_getChar_3b067 2 (some FieldType.char) 2 := ⟨tb_mem 696 (by decide +kernel) rfl, tb_mem 91 (by decide +kernel) rfl, by decide +kernel, by decide⟩
theorem st_J2_getChar_3b067 : Cond.static yJ2_getChar_3b067 ∈ TBg := tb_mem 695 (by decide +kernel) rfl
theorem tg_X4_startOtherwise : JTg yX4_startOtherwise cX4_startOtherwise 2 none 1 := ⟨tb_mem 706 (by decide +kernel) rfl, tb_mem 82 (by decide +kernel) rfl, by decide +kernel, by decide⟩
theorem vi_X4_startOtherwise : Cond.instanceMethod yX4_startOtherwise ∈ TBg ∧ Cond.selects yX4_startOtherwise.cls yX4_startOtherwise yX4_startOtherwise ∈ TBg := ⟨tb_mem 704 (by decide +kernel) rfl, tb_mem 705 (by decide +kernel) rfl⟩
theorem tg_X5_takeSign : JTg yX5_takeSign cX5_takeSign 2 (some FieldType.boolean) 1 := ⟨tb_mem 710 (by decide +kernel) rfl, tb_mem 81 (by decide +kernel) rfl, by decide +kernel, by decide⟩
theorem vi_X5_takeSign : Cond.instanceMethod yX5_takeSign ∈ TBg ∧ Cond.selects yX5_takeSign.cls yX5_takeSign yX5_takeSign ∈ TBg := ⟨tb_mem 709 (by decide +kernel) rfl, tb_mem 25 (by decide +kernel) rfl⟩
theorem tg_X5_takeStep : JTg yX5_takeStep cX5_takeStep 5 (some FieldType.boolean) 1 := ⟨tb_mem 714 (by decide +kernel) rfl, tb_mem 81 (by decide +kernel) rfl, by decide +kernel, by decide⟩
theorem vi_X5_takeStep : Cond.instanceMethod yX5_takeStep ∈ TBg ∧ Cond.selects yX5_takeStep.cls yX5_takeStep yX5_takeStep ∈ TBg := ⟨tb_mem 713 (by decide +kernel) rfl, tb_mem 26 (by decide +kernel) rfl⟩
theorem tg_X5_stepKind : JTg yX5_stepKind cX5_stepKind 1 (some FieldType.int) 0 := ⟨tb_mem 718 (by decide +kernel) rfl, tb_mem 81 (by decide +kernel) rfl, by decide +kernel, by decide⟩
theorem vi_X5_stepKind : Cond.instanceMethod yX5_stepKind ∈ TBg ∧ Cond.selects yX5_stepKind.cls yX5_stepKind yX5_stepKind ∈ TBg := ⟨tb_mem 717 (by decide +kernel) rfl, tb_mem 27 (by decide +kernel) rfl⟩
theorem tg_X4_isFull : JTg yX4_isFull cX4_isFull 1 (some FieldType.boolean) 0 := ⟨tb_mem 727 (by decide +kernel) rfl, tb_mem 82 (by decide +kernel) rfl, by decide +kernel, by decide⟩
theorem vi_X4_isFull : Cond.instanceMethod yX4_isFull ∈ TBg ∧ Cond.selects yX4_isFull.cls yX4_isFull yX4_isFull ∈ TBg := ⟨tb_mem 725 (by decide +kernel) rfl, tb_mem 726 (by decide +kernel) rfl⟩
theorem tg_X4_addStep : JTg yX4_addStep cX4_addStep 2 (some FieldType.int) 1 := ⟨tb_mem 731 (by decide +kernel) rfl, tb_mem 82 (by decide +kernel) rfl, by decide +kernel, by decide⟩
theorem vi_X4_addStep : Cond.instanceMethod yX4_addStep ∈ TBg ∧ Cond.selects yX4_addStep.cls yX4_addStep yX4_addStep ∈ TBg := ⟨tb_mem 729 (by decide +kernel) rfl, tb_mem 730 (by decide +kernel) rfl⟩
theorem tg_X5_takeNumber : JTg yX5_takeNumber cX5_takeNumber 6 (some FieldType.boolean) 4 := ⟨tb_mem 736 (by decide +kernel) rfl, tb_mem 81 (by decide +kernel) rfl, by decide +kernel, by decide⟩
theorem vi_X5_takeNumber : Cond.instanceMethod yX5_takeNumber ∈ TBg ∧ Cond.selects yX5_takeNumber.cls yX5_takeNumber yX5_takeNumber ∈ TBg := ⟨tb_mem 735 (by decide +kernel) rfl, tb_mem 28 (by decide +kernel) rfl⟩
theorem tg_X5_tokenNumber : JTg yX5_tokenNumber cX5_tokenNumber 3 (some FieldType.int) 0 := ⟨tb_mem 740 (by decide +kernel) rfl, tb_mem 81 (by decide +kernel) rfl, by decide +kernel, by decide⟩
theorem vi_X5_tokenNumber : Cond.instanceMethod yX5_tokenNumber ∈ TBg ∧ Cond.selects yX5_tokenNumber.cls yX5_tokenNumber yX5_tokenNumber ∈ TBg := ⟨tb_mem 739 (by decide +kernel) rfl, tb_mem 29 (by decide +kernel) rfl⟩
theorem tg_X4_setNumber : JTg yX4_setNumber cX4_setNumber 3 none 2 := ⟨tb_mem 744 (by decide +kernel) rfl, tb_mem 82 (by decide +kernel) rfl, by decide +kernel, by decide⟩
theorem vi_X4_setNumber : Cond.instanceMethod yX4_setNumber ∈ TBg ∧ Cond.selects yX4_setNumber.cls yX4_setNumber yX4_setNumber ∈ TBg := ⟨tb_mem 742 (by decide +kernel) rfl, tb_mem 743 (by decide +kernel) rfl⟩
theorem tg_X5_takeOpening : JTg yX5_takeOpening cX5_takeOpening 3 (some FieldType.boolean) 2 := ⟨tb_mem 748 (by decide +kernel) rfl, tb_mem 81 (by decide +kernel) rfl, by decide +kernel, by decide⟩
theorem vi_X5_takeOpening : Cond.instanceMethod yX5_takeOpening ∈ TBg ∧ Cond.selects yX5_takeOpening.cls yX5_takeOpening yX5_takeOpening ∈ TBg := ⟨tb_mem 747 (by decide +kernel) rfl, tb_mem 30 (by decide +kernel) rfl⟩
theorem tg_X4_measure : JTg yX4_measure cX4_measure 1 none 0 := ⟨tb_mem 752 (by decide +kernel) rfl, tb_mem 82 (by decide +kernel) rfl, by decide +kernel, by decide⟩
theorem vi_X4_measure : Cond.instanceMethod yX4_measure ∈ TBg ∧ Cond.selects yX4_measure.cls yX4_measure yX4_measure ∈ TBg := ⟨tb_mem 750 (by decide +kernel) rfl, tb_mem 751 (by decide +kernel) rfl⟩
theorem tg_X4_volts : JTg yX4_volts cX4_volts 9 (some FieldType.int) 4 := ⟨tb_mem 756 (by decide +kernel) rfl, tb_mem 82 (by decide +kernel) rfl, by decide +kernel, by decide⟩
theorem vi_X4_volts : Cond.instanceMethod yX4_volts ∈ TBg ∧ Cond.selects yX4_volts.cls yX4_volts yX4_volts ∈ TBg := ⟨tb_mem 755 (by decide +kernel) rfl, tb_mem 31 (by decide +kernel) rfl⟩
theorem tg_X4_kindOf : JTg yX4_kindOf cX4_kindOf 2 (some FieldType.int) 1 := ⟨tb_mem 760 (by decide +kernel) rfl, tb_mem 82 (by decide +kernel) rfl, by decide +kernel, by decide⟩
theorem vi_X4_kindOf : Cond.instanceMethod yX4_kindOf ∈ TBg ∧ Cond.selects yX4_kindOf.cls yX4_kindOf yX4_kindOf ∈ TBg := ⟨tb_mem 758 (by decide +kernel) rfl, tb_mem 759 (by decide +kernel) rfl⟩
theorem tg_X4_numberOf : JTg yX4_numberOf cX4_numberOf 2 (some FieldType.int) 1 := ⟨tb_mem 764 (by decide +kernel) rfl, tb_mem 82 (by decide +kernel) rfl, by decide +kernel, by decide⟩
theorem vi_X4_numberOf : Cond.instanceMethod yX4_numberOf ∈ TBg ∧ Cond.selects yX4_numberOf.cls yX4_numberOf yX4_numberOf ∈ TBg := ⟨tb_mem 762 (by decide +kernel) rfl, tb_mem 763 (by decide +kernel) rfl⟩
theorem tg_J9_max_7cf53 : JTg yJ9_max_7cf53 cJ9_max_7cf53 2 (some FieldType.int) 2 := ⟨tb_mem 767 (by decide +kernel) rfl, tb_mem 85 (by decide +kernel) rfl, by decide +kernel, by decide⟩
theorem st_J9_max_7cf53 : Cond.static yJ9_max_7cf53 ∈ TBg := tb_mem 766 (by decide +kernel) rfl
theorem tg_X4_otherwiseOf : JTg yX4_otherwiseOf cX4_otherwiseOf 2 (some FieldType.int) 1 := ⟨tb_mem 771 (by decide +kernel) rfl, tb_mem 82 (by decide +kernel) rfl, by decide +kernel, by decide⟩
theorem vi_X4_otherwiseOf : Cond.instanceMethod yX4_otherwiseOf ∈ TBg ∧ Cond.selects yX4_otherwiseOf.cls yX4_otherwiseOf yX4_otherwiseOf ∈ TBg := ⟨tb_mem 769 (by decide +kernel) rfl, tb_mem 770 (by decide +kernel) rfl⟩
theorem tg_X4_behindOf : JTg yX4_behindOf cX4_behindOf 2 (some FieldType.int) 1 := ⟨tb_mem 775 (by decide +kernel) rfl, tb_mem 82 (by decide +kernel) rfl, by decide +kernel, by decide⟩
theorem vi_X4_behindOf : Cond.instanceMethod yX4_behindOf ∈ TBg ∧ Cond.selects yX4_behindOf.cls yX4_behindOf yX4_behindOf ∈ TBg := ⟨tb_mem 773 (by decide +kernel) rfl, tb_mem 774 (by decide +kernel) rfl⟩
theorem tg_X4_voltsOfTry : JTg yX4_voltsOfTry cX4_voltsOfTry 7 (some FieldType.int) 3 := ⟨tb_mem 779 (by decide +kernel) rfl, tb_mem 82 (by decide +kernel) rfl, by decide +kernel, by decide⟩
theorem vi_X4_voltsOfTry : Cond.instanceMethod yX4_voltsOfTry ∈ TBg ∧ Cond.selects yX4_voltsOfTry.cls yX4_voltsOfTry yX4_voltsOfTry ∈ TBg := ⟨tb_mem 778 (by decide +kernel) rfl, tb_mem 32 (by decide +kernel) rfl⟩
theorem tg_X4_most : JTg yX4_most cX4_most 11 (some FieldType.long) 4 := ⟨tb_mem 784 (by decide +kernel) rfl, tb_mem 82 (by decide +kernel) rfl, by decide +kernel, by decide⟩
theorem vi_X4_most : Cond.instanceMethod yX4_most ∈ TBg ∧ Cond.selects yX4_most.cls yX4_most yX4_most ∈ TBg := ⟨tb_mem 783 (by decide +kernel) rfl, tb_mem 33 (by decide +kernel) rfl⟩
theorem tg_J9_max_f86c9 : JTg yJ9_max_f86c9 cJ9_max_f86c9 4 (some FieldType.long) 2 := ⟨tb_mem 787 (by decide +kernel) rfl, tb_mem 85 (by decide +kernel) rfl, by decide +kernel, by decide⟩
theorem st_J9_max_f86c9 : Cond.static yJ9_max_f86c9 ∈ TBg := tb_mem 786 (by decide +kernel) rfl
theorem tg_X8_walk : JTg yX8_walk cX8_walk 4 (some FieldType.int) 2 := ⟨tb_mem 793 (by decide +kernel) rfl, tb_mem 76 (by decide +kernel) rfl, by decide +kernel, by decide⟩
theorem vi_X8_walk : Cond.instanceMethod yX8_walk ∈ TBg ∧ Cond.selects yX8_walk.cls yX8_walk yX8_walk ∈ TBg := ⟨tb_mem 791 (by decide +kernel) rfl, tb_mem 792 (by decide +kernel) rfl⟩
theorem tg_X8_recipeAt : JTg yX8_recipeAt cX8_recipeAt 2 (some (FieldType.object "ChipBurner$Recipe")) 1 := ⟨tb_mem 797 (by decide +kernel) rfl, tb_mem 76 (by decide +kernel) rfl, by decide +kernel, by decide⟩
theorem vi_X8_recipeAt : Cond.instanceMethod yX8_recipeAt ∈ TBg ∧ Cond.selects yX8_recipeAt.cls yX8_recipeAt yX8_recipeAt ∈ TBg := ⟨tb_mem 796 (by decide +kernel) rfl, tb_mem 34 (by decide +kernel) rfl⟩
theorem tg_X8_why : JTg yX8_why cX8_why 8 (some FieldType.int) 5 := ⟨tb_mem 801 (by decide +kernel) rfl, tb_mem 76 (by decide +kernel) rfl, by decide +kernel, by decide⟩
theorem vi_X8_why : Cond.instanceMethod yX8_why ∈ TBg ∧ Cond.selects yX8_why.cls yX8_why yX8_why ∈ TBg := ⟨tb_mem 799 (by decide +kernel) rfl, tb_mem 800 (by decide +kernel) rfl⟩
theorem tg_X8_isPart : JTg yX8_isPart cX8_isPart 2 (some FieldType.boolean) 2 := ⟨tb_mem 804 (by decide +kernel) rfl, tb_mem 76 (by decide +kernel) rfl, by decide +kernel, by decide⟩
theorem st_X8_isPart : Cond.static yX8_isPart ∈ TBg := tb_mem 803 (by decide +kernel) rfl
theorem tg_X8_hindrance : JTg yX8_hindrance cX8_hindrance 8 (some FieldType.int) 5 := ⟨tb_mem 808 (by decide +kernel) rfl, tb_mem 76 (by decide +kernel) rfl, by decide +kernel, by decide⟩
theorem vi_X8_hindrance : Cond.instanceMethod yX8_hindrance ∈ TBg ∧ Cond.selects yX8_hindrance.cls yX8_hindrance yX8_hindrance ∈ TBg := ⟨tb_mem 807 (by decide +kernel) rfl, tb_mem 35 (by decide +kernel) rfl⟩
theorem tg_X4_fits : JTg yX4_fits cX4_fits 2 (some FieldType.boolean) 1 := ⟨tb_mem 813 (by decide +kernel) rfl, tb_mem 82 (by decide +kernel) rfl, by decide +kernel, by decide⟩
theorem vi_X4_fits : Cond.instanceMethod yX4_fits ∈ TBg ∧ Cond.selects yX4_fits.cls yX4_fits yX4_fits ∈ TBg := ⟨tb_mem 811 (by decide +kernel) rfl, tb_mem 812 (by decide +kernel) rfl⟩
theorem tg_X8_reachOf : JTg yX8_reachOf cX8_reachOf 3 (some FieldType.int) 3 := ⟨tb_mem 816 (by decide +kernel) rfl, tb_mem 76 (by decide +kernel) rfl, by decide +kernel, by decide⟩
theorem st_X8_reachOf : Cond.static yX8_reachOf ∈ TBg := tb_mem 815 (by decide +kernel) rfl
theorem tg_X0_mustGoBack : JTg yX0_mustGoBack cX0_mustGoBack 3 (some FieldType.boolean) 2 := ⟨tb_mem 824 (by decide +kernel) rfl, tb_mem 87 (by decide +kernel) rfl, by decide +kernel, by decide⟩
theorem vi_X0_mustGoBack : Cond.instanceMethod yX0_mustGoBack ∈ TBg ∧ Cond.selects yX0_mustGoBack.cls yX0_mustGoBack yX0_mustGoBack ∈ TBg := ⟨tb_mem 822 (by decide +kernel) rfl, tb_mem 823 (by decide +kernel) rfl⟩
theorem tg_X8_burn : JTg yX8_burn cX8_burn 14 (some FieldType.int) 6 := ⟨tb_mem 828 (by decide +kernel) rfl, tb_mem 76 (by decide +kernel) rfl, by decide +kernel, by decide⟩
theorem vi_X8_burn : Cond.instanceMethod yX8_burn ∈ TBg ∧ Cond.selects yX8_burn.cls yX8_burn yX8_burn ∈ TBg := ⟨tb_mem 826 (by decide +kernel) rfl, tb_mem 827 (by decide +kernel) rfl⟩
theorem tg_X7_init : JTg yX7_init cX7_init 4 none 3 := ⟨tb_mem 834 (by decide +kernel) rfl, tb_mem 92 (by decide +kernel) rfl, by decide +kernel, by decide⟩
theorem ii_X7_init : Cond.instanceMethod yX7_init ∈ TBg ∧ yX7_init.name = "<init>" := ⟨tb_mem 833 (by decide +kernel) rfl, rfl⟩
theorem tg_X0_isRight : JTg yX0_isRight cX0_isRight 3 (some FieldType.boolean) 2 := ⟨tb_mem 862 (by decide +kernel) rfl, tb_mem 87 (by decide +kernel) rfl, by decide +kernel, by decide⟩
theorem vi_X0_isRight : Cond.instanceMethod yX0_isRight ∈ TBg ∧ Cond.selects yX0_isRight.cls yX0_isRight yX0_isRight ∈ TBg := ⟨tb_mem 860 (by decide +kernel) rfl, tb_mem 861 (by decide +kernel) rfl⟩
theorem tg_X7_workAt : JTg yX7_workAt cX7_workAt 3 none 2 := ⟨tb_mem 866 (by decide +kernel) rfl, tb_mem 92 (by decide +kernel) rfl, by decide +kernel, by decide⟩
theorem vi_X7_workAt : Cond.instanceMethod yX7_workAt ∈ TBg ∧ Cond.selects yX7_workAt.cls yX7_workAt yX7_workAt ∈ TBg := ⟨tb_mem 864 (by decide +kernel) rfl, tb_mem 865 (by decide +kernel) rfl⟩
theorem tg_X7_workSteps : JTg yX7_workSteps cX7_workSteps 5 none 3 := ⟨tb_mem 870 (by decide +kernel) rfl, tb_mem 92 (by decide +kernel) rfl, by decide +kernel, by decide⟩
theorem vi_X7_workSteps : Cond.instanceMethod yX7_workSteps ∈ TBg ∧ Cond.selects yX7_workSteps.cls yX7_workSteps yX7_workSteps ∈ TBg := ⟨tb_mem 869 (by decide +kernel) rfl, tb_mem 36 (by decide +kernel) rfl⟩
theorem tg_X7_workStep : JTg yX7_workStep cX7_workStep 4 none 2 := ⟨tb_mem 874 (by decide +kernel) rfl, tb_mem 92 (by decide +kernel) rfl, by decide +kernel, by decide⟩
theorem vi_X7_workStep : Cond.instanceMethod yX7_workStep ∈ TBg ∧ Cond.selects yX7_workStep.cls yX7_workStep yX7_workStep ∈ TBg := ⟨tb_mem 873 (by decide +kernel) rfl, tb_mem 37 (by decide +kernel) rfl⟩
theorem tg_X7_givePulses : JTg yX7_givePulses cX7_givePulses 3 none 1 := ⟨tb_mem 880 (by decide +kernel) rfl, tb_mem 92 (by decide +kernel) rfl, by decide +kernel, by decide⟩
theorem vi_X7_givePulses : Cond.instanceMethod yX7_givePulses ∈ TBg ∧ Cond.selects yX7_givePulses.cls yX7_givePulses yX7_givePulses ∈ TBg := ⟨tb_mem 879 (by decide +kernel) rfl, tb_mem 38 (by decide +kernel) rfl⟩
theorem tg_X0_takePulse : JTg yX0_takePulse cX0_takePulse 4 none 3 := ⟨tb_mem 884 (by decide +kernel) rfl, tb_mem 87 (by decide +kernel) rfl, by decide +kernel, by decide⟩
theorem vi_X0_takePulse : Cond.instanceMethod yX0_takePulse ∈ TBg ∧ Cond.selects yX0_takePulse.cls yX0_takePulse yX0_takePulse ∈ TBg := ⟨tb_mem 882 (by decide +kernel) rfl, tb_mem 883 (by decide +kernel) rfl⟩
theorem tg_X7_workBranch : JTg yX7_workBranch cX7_workBranch 3 none 2 := ⟨tb_mem 890 (by decide +kernel) rfl, tb_mem 92 (by decide +kernel) rfl, by decide +kernel, by decide⟩
theorem vi_X7_workBranch : Cond.instanceMethod yX7_workBranch ∈ TBg ∧ Cond.selects yX7_workBranch.cls yX7_workBranch yX7_workBranch ∈ TBg := ⟨tb_mem 889 (by decide +kernel) rfl, tb_mem 39 (by decide +kernel) rfl⟩
theorem tg_X8_wrong : JTg yX8_wrong cX8_wrong 8 (some FieldType.int) 3 := ⟨tb_mem 896 (by decide +kernel) rfl, tb_mem 76 (by decide +kernel) rfl, by decide +kernel, by decide⟩
theorem vi_X8_wrong : Cond.instanceMethod yX8_wrong ∈ TBg ∧ Cond.selects yX8_wrong.cls yX8_wrong yX8_wrong ∈ TBg := ⟨tb_mem 894 (by decide +kernel) rfl, tb_mem 895 (by decide +kernel) rfl⟩
theorem tg_X8_read : JTg yX8_read cX8_read 9 (some FieldType.int) 4 := ⟨tb_mem 900 (by decide +kernel) rfl, tb_mem 76 (by decide +kernel) rfl, by decide +kernel, by decide⟩
theorem vi_X8_read : Cond.instanceMethod yX8_read ∈ TBg ∧ Cond.selects yX8_read.cls yX8_read yX8_read ∈ TBg := ⟨tb_mem 898 (by decide +kernel) rfl, tb_mem 899 (by decide +kernel) rfl⟩
theorem tg_X8_about : JTg yX8_about cX8_about 2 (some FieldType.int) 1 := ⟨tb_mem 904 (by decide +kernel) rfl, tb_mem 76 (by decide +kernel) rfl, by decide +kernel, by decide⟩
theorem vi_X8_about : Cond.instanceMethod yX8_about ∈ TBg ∧ Cond.selects yX8_about.cls yX8_about yX8_about ∈ TBg := ⟨tb_mem 902 (by decide +kernel) rfl, tb_mem 903 (by decide +kernel) rfl⟩
theorem tg_X9_init : JTg yX9_init cX9_init 2 none 0 := ⟨tb_mem 909 (by decide +kernel) rfl, tb_mem 84 (by decide +kernel) rfl, by decide +kernel, by decide⟩
theorem ii_X9_init : Cond.instanceMethod yX9_init ∈ TBg ∧ yX9_init.name = "<init>" := ⟨tb_mem 908 (by decide +kernel) rfl, rfl⟩
theorem tg_X9_feed : JTg yX9_feed cX9_feed 6 (some FieldType.int) 5 := ⟨tb_mem 1084 (by decide +kernel) rfl, tb_mem 84 (by decide +kernel) rfl, by decide +kernel, by decide⟩
theorem vi_X9_feed : Cond.instanceMethod yX9_feed ∈ TBg ∧ Cond.selects yX9_feed.cls yX9_feed yX9_feed ∈ TBg := ⟨tb_mem 1082 (by decide +kernel) rfl, tb_mem 1083 (by decide +kernel) rfl⟩
theorem tg_X9_four : JTg yX9_four cX9_four 3 none 1 := ⟨tb_mem 1088 (by decide +kernel) rfl, tb_mem 84 (by decide +kernel) rfl, by decide +kernel, by decide⟩
theorem vi_X9_four : Cond.instanceMethod yX9_four ∈ TBg ∧ Cond.selects yX9_four.cls yX9_four yX9_four ∈ TBg := ⟨tb_mem 1087 (by decide +kernel) rfl, tb_mem 40 (by decide +kernel) rfl⟩
theorem tg_X9_end : JTg yX9_end cX9_end 2 (some FieldType.int) 1 := ⟨tb_mem 1092 (by decide +kernel) rfl, tb_mem 84 (by decide +kernel) rfl, by decide +kernel, by decide⟩
theorem vi_X9_end : Cond.instanceMethod yX9_end ∈ TBg ∧ Cond.selects yX9_end.cls yX9_end yX9_end ∈ TBg := ⟨tb_mem 1090 (by decide +kernel) rfl, tb_mem 1091 (by decide +kernel) rfl⟩
theorem tg_X9_isIn : JTg yX9_isIn cX9_isIn 3 (some FieldType.boolean) 3 := ⟨tb_mem 1095 (by decide +kernel) rfl, tb_mem 84 (by decide +kernel) rfl, by decide +kernel, by decide⟩
theorem st_X9_isIn : Cond.static yX9_isIn ∈ TBg := tb_mem 1094 (by decide +kernel) rfl
theorem tg_X9_tape : JTg yX9_tape cX9_tape 2 (some FieldType.int) 1 := ⟨tb_mem 1099 (by decide +kernel) rfl, tb_mem 84 (by decide +kernel) rfl, by decide +kernel, by decide⟩
theorem vi_X9_tape : Cond.instanceMethod yX9_tape ∈ TBg ∧ Cond.selects yX9_tape.cls yX9_tape yX9_tape ∈ TBg := ⟨tb_mem 1097 (by decide +kernel) rfl, tb_mem 1098 (by decide +kernel) rfl⟩
theorem tg_X9_image : JTg yX9_image cX9_image 2 (some FieldType.int) 1 := ⟨tb_mem 1103 (by decide +kernel) rfl, tb_mem 84 (by decide +kernel) rfl, by decide +kernel, by decide⟩
theorem vi_X9_image : Cond.instanceMethod yX9_image ∈ TBg ∧ Cond.selects yX9_image.cls yX9_image yX9_image ∈ TBg := ⟨tb_mem 1101 (by decide +kernel) rfl, tb_mem 1102 (by decide +kernel) rfl⟩
theorem tg_X9_fill : JTg yX9_fill cX9_fill 3 (some FieldType.boolean) 1 := ⟨tb_mem 1107 (by decide +kernel) rfl, tb_mem 84 (by decide +kernel) rfl, by decide +kernel, by decide⟩
theorem vi_X9_fill : Cond.instanceMethod yX9_fill ∈ TBg ∧ Cond.selects yX9_fill.cls yX9_fill yX9_fill ∈ TBg := ⟨tb_mem 1105 (by decide +kernel) rfl, tb_mem 1106 (by decide +kernel) rfl⟩
theorem tg_X9_file : JTg yX9_file cX9_file 3 (some FieldType.int) 1 := ⟨tb_mem 1111 (by decide +kernel) rfl, tb_mem 84 (by decide +kernel) rfl, by decide +kernel, by decide⟩
theorem vi_X9_file : Cond.instanceMethod yX9_file ∈ TBg ∧ Cond.selects yX9_file.cls yX9_file yX9_file ∈ TBg := ⟨tb_mem 1109 (by decide +kernel) rfl, tb_mem 1110 (by decide +kernel) rfl⟩
theorem tg_X9_readPlain : JTg yX9_readPlain cX9_readPlain 2 (some FieldType.int) 0 := ⟨tb_mem 1115 (by decide +kernel) rfl, tb_mem 84 (by decide +kernel) rfl, by decide +kernel, by decide⟩
theorem vi_X9_readPlain : Cond.instanceMethod yX9_readPlain ∈ TBg ∧ Cond.selects yX9_readPlain.cls yX9_readPlain yX9_readPlain ∈ TBg := ⟨tb_mem 1114 (by decide +kernel) rfl, tb_mem 41 (by decide +kernel) rfl⟩
theorem tg_X9_put : JTg yX9_put cX9_put 3 none 2 := ⟨tb_mem 1119 (by decide +kernel) rfl, tb_mem 84 (by decide +kernel) rfl, by decide +kernel, by decide⟩
theorem vi_X9_put : Cond.instanceMethod yX9_put ∈ TBg ∧ Cond.selects yX9_put.cls yX9_put yX9_put ∈ TBg := ⟨tb_mem 1118 (by decide +kernel) rfl, tb_mem 42 (by decide +kernel) rfl⟩
theorem tg_X9_readLines : JTg yX9_readLines cX9_readLines 6 (some FieldType.int) 1 := ⟨tb_mem 1123 (by decide +kernel) rfl, tb_mem 84 (by decide +kernel) rfl, by decide +kernel, by decide⟩
theorem vi_X9_readLines : Cond.instanceMethod yX9_readLines ∈ TBg ∧ Cond.selects yX9_readLines.cls yX9_readLines yX9_readLines ∈ TBg := ⟨tb_mem 1122 (by decide +kernel) rfl, tb_mem 43 (by decide +kernel) rfl⟩
theorem tg_X9_lineOne : JTg yX9_lineOne cX9_lineOne 5 (some FieldType.int) 2 := ⟨tb_mem 1127 (by decide +kernel) rfl, tb_mem 84 (by decide +kernel) rfl, by decide +kernel, by decide⟩
theorem vi_X9_lineOne : Cond.instanceMethod yX9_lineOne ∈ TBg ∧ Cond.selects yX9_lineOne.cls yX9_lineOne yX9_lineOne ∈ TBg := ⟨tb_mem 1126 (by decide +kernel) rfl, tb_mem 44 (by decide +kernel) rfl⟩
theorem tg_X9_bytes : JTg yX9_bytes cX9_bytes 7 (some FieldType.int) 2 := ⟨tb_mem 1131 (by decide +kernel) rfl, tb_mem 84 (by decide +kernel) rfl, by decide +kernel, by decide⟩
theorem vi_X9_bytes : Cond.instanceMethod yX9_bytes ∈ TBg ∧ Cond.selects yX9_bytes.cls yX9_bytes yX9_bytes ∈ TBg := ⟨tb_mem 1130 (by decide +kernel) rfl, tb_mem 45 (by decide +kernel) rfl⟩
theorem tg_X9_digitOf : JTg yX9_digitOf cX9_digitOf 1 (some FieldType.int) 1 := ⟨tb_mem 1134 (by decide +kernel) rfl, tb_mem 84 (by decide +kernel) rfl, by decide +kernel, by decide⟩
theorem st_X9_digitOf : Cond.static yX9_digitOf ∈ TBg := tb_mem 1133 (by decide +kernel) rfl
theorem tg_X9_sumOf : JTg yX9_sumOf cX9_sumOf 4 (some FieldType.int) 1 := ⟨tb_mem 1138 (by decide +kernel) rfl, tb_mem 84 (by decide +kernel) rfl, by decide +kernel, by decide⟩
theorem vi_X9_sumOf : Cond.instanceMethod yX9_sumOf ∈ TBg ∧ Cond.selects yX9_sumOf.cls yX9_sumOf yX9_sumOf ∈ TBg := ⟨tb_mem 1137 (by decide +kernel) rfl, tb_mem 46 (by decide +kernel) rfl⟩
theorem tg_X9_data : JTg yX9_data cX9_data 5 (some FieldType.int) 3 := ⟨tb_mem 1142 (by decide +kernel) rfl, tb_mem 84 (by decide +kernel) rfl, by decide +kernel, by decide⟩
theorem vi_X9_data : Cond.instanceMethod yX9_data ∈ TBg ∧ Cond.selects yX9_data.cls yX9_data yX9_data ∈ TBg := ⟨tb_mem 1141 (by decide +kernel) rfl, tb_mem 47 (by decide +kernel) rfl⟩
theorem tg_X9_lineTwo : JTg yX9_lineTwo cX9_lineTwo 5 (some FieldType.int) 2 := ⟨tb_mem 1146 (by decide +kernel) rfl, tb_mem 84 (by decide +kernel) rfl, by decide +kernel, by decide⟩
theorem vi_X9_lineTwo : Cond.instanceMethod yX9_lineTwo ∈ TBg ∧ Cond.selects yX9_lineTwo.cls yX9_lineTwo yX9_lineTwo ∈ TBg := ⟨tb_mem 1145 (by decide +kernel) rfl, tb_mem 48 (by decide +kernel) rfl⟩
theorem tg_X9_fault : JTg yX9_fault cX9_fault 2 (some FieldType.int) 1 := ⟨tb_mem 1150 (by decide +kernel) rfl, tb_mem 84 (by decide +kernel) rfl, by decide +kernel, by decide⟩
theorem vi_X9_fault : Cond.instanceMethod yX9_fault ∈ TBg ∧ Cond.selects yX9_fault.cls yX9_fault yX9_fault ∈ TBg := ⟨tb_mem 1148 (by decide +kernel) rfl, tb_mem 1149 (by decide +kernel) rfl⟩
theorem tg_X9_write : JTg yX9_write cX9_write 8 (some FieldType.int) 3 := ⟨tb_mem 1154 (by decide +kernel) rfl, tb_mem 84 (by decide +kernel) rfl, by decide +kernel, by decide⟩
theorem vi_X9_write : Cond.instanceMethod yX9_write ∈ TBg ∧ Cond.selects yX9_write.cls yX9_write yX9_write ∈ TBg := ⟨tb_mem 1152 (by decide +kernel) rfl, tb_mem 1153 (by decide +kernel) rfl⟩
theorem tg_X9_writeLine : JTg yX9_writeLine cX9_writeLine 6 none 4 := ⟨tb_mem 1158 (by decide +kernel) rfl, tb_mem 84 (by decide +kernel) rfl, by decide +kernel, by decide⟩
theorem vi_X9_writeLine : Cond.instanceMethod yX9_writeLine ∈ TBg ∧ Cond.selects yX9_writeLine.cls yX9_writeLine yX9_writeLine ∈ TBg := ⟨tb_mem 1157 (by decide +kernel) rfl, tb_mem 49 (by decide +kernel) rfl⟩
theorem tg_X9_writeSign : JTg yX9_writeSign cX9_writeSign 2 none 1 := ⟨tb_mem 1162 (by decide +kernel) rfl, tb_mem 84 (by decide +kernel) rfl, by decide +kernel, by decide⟩
theorem vi_X9_writeSign : Cond.instanceMethod yX9_writeSign ∈ TBg ∧ Cond.selects yX9_writeSign.cls yX9_writeSign yX9_writeSign ∈ TBg := ⟨tb_mem 1161 (by decide +kernel) rfl, tb_mem 50 (by decide +kernel) rfl⟩
theorem tg_X9_writeByte : JTg yX9_writeByte cX9_writeByte 4 none 1 := ⟨tb_mem 1166 (by decide +kernel) rfl, tb_mem 84 (by decide +kernel) rfl, by decide +kernel, by decide⟩
theorem vi_X9_writeByte : Cond.instanceMethod yX9_writeByte ∈ TBg ∧ Cond.selects yX9_writeByte.cls yX9_writeByte yX9_writeByte ∈ TBg := ⟨tb_mem 1165 (by decide +kernel) rfl, tb_mem 51 (by decide +kernel) rfl⟩
theorem tg_X9_chip : JTg yX9_chip cX9_chip 11 (some FieldType.int) 8 := ⟨tb_mem 1170 (by decide +kernel) rfl, tb_mem 84 (by decide +kernel) rfl, by decide +kernel, by decide⟩
theorem vi_X9_chip : Cond.instanceMethod yX9_chip ∈ TBg ∧ Cond.selects yX9_chip.cls yX9_chip yX9_chip ∈ TBg := ⟨tb_mem 1168 (by decide +kernel) rfl, tb_mem 1169 (by decide +kernel) rfl⟩
theorem tg_X9_need : JTg yX9_need cX9_need 4 (some FieldType.boolean) 3 := ⟨tb_mem 1174 (by decide +kernel) rfl, tb_mem 84 (by decide +kernel) rfl, by decide +kernel, by decide⟩
theorem vi_X9_need : Cond.instanceMethod yX9_need ∈ TBg ∧ Cond.selects yX9_need.cls yX9_need yX9_need ∈ TBg := ⟨tb_mem 1172 (by decide +kernel) rfl, tb_mem 1173 (by decide +kernel) rfl⟩
theorem tg_X9_isAddress : JTg yX9_isAddress cX9_isAddress 3 (some FieldType.boolean) 2 := ⟨tb_mem 1178 (by decide +kernel) rfl, tb_mem 84 (by decide +kernel) rfl, by decide +kernel, by decide⟩
theorem vi_X9_isAddress : Cond.instanceMethod yX9_isAddress ∈ TBg ∧ Cond.selects yX9_isAddress.cls yX9_isAddress yX9_isAddress ∈ TBg := ⟨tb_mem 1177 (by decide +kernel) rfl, tb_mem 52 (by decide +kernel) rfl⟩
theorem tg_X9_isChip : JTg yX9_isChip cX9_isChip 2 (some FieldType.boolean) 1 := ⟨tb_mem 1182 (by decide +kernel) rfl, tb_mem 84 (by decide +kernel) rfl, by decide +kernel, by decide⟩
theorem vi_X9_isChip : Cond.instanceMethod yX9_isChip ∈ TBg ∧ Cond.selects yX9_isChip.cls yX9_isChip yX9_isChip ∈ TBg := ⟨tb_mem 1181 (by decide +kernel) rfl, tb_mem 53 (by decide +kernel) rfl⟩
theorem tg_X9_bad : JTg yX9_bad cX9_bad 4 (some FieldType.boolean) 3 := ⟨tb_mem 1186 (by decide +kernel) rfl, tb_mem 84 (by decide +kernel) rfl, by decide +kernel, by decide⟩
theorem vi_X9_bad : Cond.instanceMethod yX9_bad ∈ TBg ∧ Cond.selects yX9_bad.cls yX9_bad yX9_bad ∈ TBg := ⟨tb_mem 1184 (by decide +kernel) rfl, tb_mem 1185 (by decide +kernel) rfl⟩
theorem tg_X9_contact : JTg yX9_contact cX9_contact 4 (some FieldType.boolean) 3 := ⟨tb_mem 1190 (by decide +kernel) rfl, tb_mem 84 (by decide +kernel) rfl, by decide +kernel, by decide⟩
theorem vi_X9_contact : Cond.instanceMethod yX9_contact ∈ TBg ∧ Cond.selects yX9_contact.cls yX9_contact yX9_contact ∈ TBg := ⟨tb_mem 1188 (by decide +kernel) rfl, tb_mem 1189 (by decide +kernel) rfl⟩
theorem tg_X9_erase : JTg yX9_erase cX9_erase 3 (some FieldType.int) 1 := ⟨tb_mem 1194 (by decide +kernel) rfl, tb_mem 84 (by decide +kernel) rfl, by decide +kernel, by decide⟩
theorem vi_X9_erase : Cond.instanceMethod yX9_erase ∈ TBg ∧ Cond.selects yX9_erase.cls yX9_erase yX9_erase ∈ TBg := ⟨tb_mem 1192 (by decide +kernel) rfl, tb_mem 1193 (by decide +kernel) rfl⟩
theorem tg_X9_chipOf : JTg yX9_chipOf cX9_chipOf 5 (some FieldType.int) 2 := ⟨tb_mem 1198 (by decide +kernel) rfl, tb_mem 84 (by decide +kernel) rfl, by decide +kernel, by decide⟩
theorem vi_X9_chipOf : Cond.instanceMethod yX9_chipOf ∈ TBg ∧ Cond.selects yX9_chipOf.cls yX9_chipOf yX9_chipOf ∈ TBg := ⟨tb_mem 1196 (by decide +kernel) rfl, tb_mem 1197 (by decide +kernel) rfl⟩
theorem tg_X9_logicals : JTg yX9_logicals cX9_logicals 4 (some FieldType.int) 1 := ⟨tb_mem 1202 (by decide +kernel) rfl, tb_mem 84 (by decide +kernel) rfl, by decide +kernel, by decide⟩
theorem vi_X9_logicals : Cond.instanceMethod yX9_logicals ∈ TBg ∧ Cond.selects yX9_logicals.cls yX9_logicals yX9_logicals ∈ TBg := ⟨tb_mem 1201 (by decide +kernel) rfl, tb_mem 54 (by decide +kernel) rfl⟩
theorem tg_X9_addressOf : JTg yX9_addressOf cX9_addressOf 5 (some FieldType.int) 2 := ⟨tb_mem 1206 (by decide +kernel) rfl, tb_mem 84 (by decide +kernel) rfl, by decide +kernel, by decide⟩
theorem vi_X9_addressOf : Cond.instanceMethod yX9_addressOf ∈ TBg ∧ Cond.selects yX9_addressOf.cls yX9_addressOf yX9_addressOf ∈ TBg := ⟨tb_mem 1205 (by decide +kernel) rfl, tb_mem 55 (by decide +kernel) rfl⟩
theorem tg_X9_lacking : JTg yX9_lacking cX9_lacking 3 (some FieldType.int) 1 := ⟨tb_mem 1210 (by decide +kernel) rfl, tb_mem 84 (by decide +kernel) rfl, by decide +kernel, by decide⟩
theorem vi_X9_lacking : Cond.instanceMethod yX9_lacking ∈ TBg ∧ Cond.selects yX9_lacking.cls yX9_lacking yX9_lacking ∈ TBg := ⟨tb_mem 1209 (by decide +kernel) rfl, tb_mem 56 (by decide +kernel) rfl⟩
theorem tg_X9_recipe : JTg yX9_recipe cX9_recipe 3 (some FieldType.int) 1 := ⟨tb_mem 1216 (by decide +kernel) rfl, tb_mem 84 (by decide +kernel) rfl, by decide +kernel, by decide⟩
theorem vi_X9_recipe : Cond.instanceMethod yX9_recipe ∈ TBg ∧ Cond.selects yX9_recipe.cls yX9_recipe yX9_recipe ∈ TBg := ⟨tb_mem 1214 (by decide +kernel) rfl, tb_mem 1215 (by decide +kernel) rfl⟩
theorem tg_X9_readRecipe : JTg yX9_readRecipe cX9_readRecipe 2 (some FieldType.int) 0 := ⟨tb_mem 1220 (by decide +kernel) rfl, tb_mem 84 (by decide +kernel) rfl, by decide +kernel, by decide⟩
theorem vi_X9_readRecipe : Cond.instanceMethod yX9_readRecipe ∈ TBg ∧ Cond.selects yX9_readRecipe.cls yX9_readRecipe yX9_readRecipe ∈ TBg := ⟨tb_mem 1219 (by decide +kernel) rfl, tb_mem 57 (by decide +kernel) rfl⟩
theorem tg_X9_nextToken : JTg yX9_nextToken cX9_nextToken 4 none 0 := ⟨tb_mem 1224 (by decide +kernel) rfl, tb_mem 84 (by decide +kernel) rfl, by decide +kernel, by decide⟩
theorem vi_X9_nextToken : Cond.instanceMethod yX9_nextToken ∈ TBg ∧ Cond.selects yX9_nextToken.cls yX9_nextToken yX9_nextToken ∈ TBg := ⟨tb_mem 1223 (by decide +kernel) rfl, tb_mem 58 (by decide +kernel) rfl⟩
theorem tg_X9_see : JTg yX9_see cX9_see 2 (some FieldType.int) 1 := ⟨tb_mem 1228 (by decide +kernel) rfl, tb_mem 84 (by decide +kernel) rfl, by decide +kernel, by decide⟩
theorem vi_X9_see : Cond.instanceMethod yX9_see ∈ TBg ∧ Cond.selects yX9_see.cls yX9_see yX9_see ∈ TBg := ⟨tb_mem 1227 (by decide +kernel) rfl, tb_mem 59 (by decide +kernel) rfl⟩
theorem tg_X9_isDigit : JTg yX9_isDigit cX9_isDigit 1 (some FieldType.boolean) 1 := ⟨tb_mem 1231 (by decide +kernel) rfl, tb_mem 84 (by decide +kernel) rfl, by decide +kernel, by decide⟩
theorem st_X9_isDigit : Cond.static yX9_isDigit ∈ TBg := tb_mem 1230 (by decide +kernel) rfl
theorem tg_X9_isLetter : JTg yX9_isLetter cX9_isLetter 1 (some FieldType.boolean) 1 := ⟨tb_mem 1235 (by decide +kernel) rfl, tb_mem 84 (by decide +kernel) rfl, by decide +kernel, by decide⟩
theorem st_X9_isLetter : Cond.static yX9_isLetter ∈ TBg := tb_mem 1234 (by decide +kernel) rfl
theorem tg_X9_wordOf : JTg yX9_wordOf cX9_wordOf 2 (some FieldType.int) 1 := ⟨tb_mem 1238 (by decide +kernel) rfl, tb_mem 84 (by decide +kernel) rfl, by decide +kernel, by decide⟩
theorem st_X9_wordOf : Cond.static yX9_wordOf ∈ TBg := tb_mem 1237 (by decide +kernel) rfl
theorem tg_X9_add : JTg yX9_add cX9_add 4 (some FieldType.long) 3 := ⟨tb_mem 1241 (by decide +kernel) rfl, tb_mem 84 (by decide +kernel) rfl, by decide +kernel, by decide⟩
theorem st_X9_add : Cond.static yX9_add ∈ TBg := tb_mem 1240 (by decide +kernel) rfl
theorem tg_X9_brace : JTg yX9_brace cX9_brace 4 (some FieldType.int) 0 := ⟨tb_mem 1247 (by decide +kernel) rfl, tb_mem 84 (by decide +kernel) rfl, by decide +kernel, by decide⟩
theorem vi_X9_brace : Cond.instanceMethod yX9_brace ∈ TBg ∧ Cond.selects yX9_brace.cls yX9_brace yX9_brace ∈ TBg := ⟨tb_mem 1246 (by decide +kernel) rfl, tb_mem 60 (by decide +kernel) rfl⟩
theorem tg_X9_order : JTg yX9_order cX9_order 5 (some FieldType.int) 3 := ⟨tb_mem 1251 (by decide +kernel) rfl, tb_mem 84 (by decide +kernel) rfl, by decide +kernel, by decide⟩
theorem vi_X9_order : Cond.instanceMethod yX9_order ∈ TBg ∧ Cond.selects yX9_order.cls yX9_order yX9_order ∈ TBg := ⟨tb_mem 1250 (by decide +kernel) rfl, tb_mem 61 (by decide +kernel) rfl⟩
theorem tg_X9_close : JTg yX9_close cX9_close 3 none 2 := ⟨tb_mem 1257 (by decide +kernel) rfl, tb_mem 84 (by decide +kernel) rfl, by decide +kernel, by decide⟩
theorem vi_X9_close : Cond.instanceMethod yX9_close ∈ TBg ∧ Cond.selects yX9_close.cls yX9_close yX9_close ∈ TBg := ⟨tb_mem 1256 (by decide +kernel) rfl, tb_mem 62 (by decide +kernel) rfl⟩
theorem tg_X9_lesser : JTg yX9_lesser cX9_lesser 2 (some FieldType.int) 2 := ⟨tb_mem 1260 (by decide +kernel) rfl, tb_mem 84 (by decide +kernel) rfl, by decide +kernel, by decide⟩
theorem st_X9_lesser : Cond.static yX9_lesser ∈ TBg := tb_mem 1259 (by decide +kernel) rfl
theorem tg_X9_step : JTg yX9_step cX9_step 3 (some FieldType.int) 0 := ⟨tb_mem 1264 (by decide +kernel) rfl, tb_mem 84 (by decide +kernel) rfl, by decide +kernel, by decide⟩
theorem vi_X9_step : Cond.instanceMethod yX9_step ∈ TBg ∧ Cond.selects yX9_step.cls yX9_step yX9_step ∈ TBg := ⟨tb_mem 1263 (by decide +kernel) rfl, tb_mem 63 (by decide +kernel) rfl⟩
theorem tg_X9_semicolon : JTg yX9_semicolon cX9_semicolon 1 (some FieldType.int) 0 := ⟨tb_mem 1268 (by decide +kernel) rfl, tb_mem 84 (by decide +kernel) rfl, by decide +kernel, by decide⟩
theorem vi_X9_semicolon : Cond.instanceMethod yX9_semicolon ∈ TBg ∧ Cond.selects yX9_semicolon.cls yX9_semicolon yX9_semicolon ∈ TBg := ⟨tb_mem 1267 (by decide +kernel) rfl, tb_mem 64 (by decide +kernel) rfl⟩
theorem tg_X9_begin : JTg yX9_begin cX9_begin 2 none 1 := ⟨tb_mem 1272 (by decide +kernel) rfl, tb_mem 84 (by decide +kernel) rfl, by decide +kernel, by decide⟩
theorem vi_X9_begin : Cond.instanceMethod yX9_begin ∈ TBg ∧ Cond.selects yX9_begin.cls yX9_begin yX9_begin ∈ TBg := ⟨tb_mem 1271 (by decide +kernel) rfl, tb_mem 65 (by decide +kernel) rfl⟩
theorem tg_X9_walk : JTg yX9_walk cX9_walk 3 (some FieldType.int) 2 := ⟨tb_mem 1276 (by decide +kernel) rfl, tb_mem 84 (by decide +kernel) rfl, by decide +kernel, by decide⟩
theorem vi_X9_walk : Cond.instanceMethod yX9_walk ∈ TBg ∧ Cond.selects yX9_walk.cls yX9_walk yX9_walk ∈ TBg := ⟨tb_mem 1274 (by decide +kernel) rfl, tb_mem 1275 (by decide +kernel) rfl⟩
theorem tg_X9_mostVolts : JTg yX9_mostVolts cX9_mostVolts 5 (some FieldType.int) 1 := ⟨tb_mem 1280 (by decide +kernel) rfl, tb_mem 84 (by decide +kernel) rfl, by decide +kernel, by decide⟩
theorem vi_X9_mostVolts : Cond.instanceMethod yX9_mostVolts ∈ TBg ∧ Cond.selects yX9_mostVolts.cls yX9_mostVolts yX9_mostVolts ∈ TBg := ⟨tb_mem 1279 (by decide +kernel) rfl, tb_mem 66 (by decide +kernel) rfl⟩
theorem tg_X9_flowFrom : JTg yX9_flowFrom cX9_flowFrom 5 none 2 := ⟨tb_mem 1284 (by decide +kernel) rfl, tb_mem 84 (by decide +kernel) rfl, by decide +kernel, by decide⟩
theorem vi_X9_flowFrom : Cond.instanceMethod yX9_flowFrom ∈ TBg ∧ Cond.selects yX9_flowFrom.cls yX9_flowFrom yX9_flowFrom ∈ TBg := ⟨tb_mem 1283 (by decide +kernel) rfl, tb_mem 67 (by decide +kernel) rfl⟩
theorem tg_X9_flow : JTg yX9_flow cX9_flow 3 none 2 := ⟨tb_mem 1288 (by decide +kernel) rfl, tb_mem 84 (by decide +kernel) rfl, by decide +kernel, by decide⟩
theorem vi_X9_flow : Cond.instanceMethod yX9_flow ∈ TBg ∧ Cond.selects yX9_flow.cls yX9_flow yX9_flow ∈ TBg := ⟨tb_mem 1287 (by decide +kernel) rfl, tb_mem 68 (by decide +kernel) rfl⟩
theorem tg_X9_why : JTg yX9_why cX9_why 6 (some FieldType.int) 5 := ⟨tb_mem 1293 (by decide +kernel) rfl, tb_mem 84 (by decide +kernel) rfl, by decide +kernel, by decide⟩
theorem vi_X9_why : Cond.instanceMethod yX9_why ∈ TBg ∧ Cond.selects yX9_why.cls yX9_why yX9_why ∈ TBg := ⟨tb_mem 1291 (by decide +kernel) rfl, tb_mem 1292 (by decide +kernel) rfl⟩
theorem tg_X9_isPart : JTg yX9_isPart cX9_isPart 2 (some FieldType.boolean) 2 := ⟨tb_mem 1296 (by decide +kernel) rfl, tb_mem 84 (by decide +kernel) rfl, by decide +kernel, by decide⟩
theorem st_X9_isPart : Cond.static yX9_isPart ∈ TBg := tb_mem 1295 (by decide +kernel) rfl
theorem tg_X9_whyNot : JTg yX9_whyNot cX9_whyNot 9 (some FieldType.int) 5 := ⟨tb_mem 1300 (by decide +kernel) rfl, tb_mem 84 (by decide +kernel) rfl, by decide +kernel, by decide⟩
theorem vi_X9_whyNot : Cond.instanceMethod yX9_whyNot ∈ TBg ∧ Cond.selects yX9_whyNot.cls yX9_whyNot yX9_whyNot ∈ TBg := ⟨tb_mem 1299 (by decide +kernel) rfl, tb_mem 69 (by decide +kernel) rfl⟩
theorem tg_X9_isFit : JTg yX9_isFit cX9_isFit 3 (some FieldType.boolean) 2 := ⟨tb_mem 1304 (by decide +kernel) rfl, tb_mem 84 (by decide +kernel) rfl, by decide +kernel, by decide⟩
theorem vi_X9_isFit : Cond.instanceMethod yX9_isFit ∈ TBg ∧ Cond.selects yX9_isFit.cls yX9_isFit yX9_isFit ∈ TBg := ⟨tb_mem 1303 (by decide +kernel) rfl, tb_mem 70 (by decide +kernel) rfl⟩
theorem tg_X9_last : JTg yX9_last cX9_last 6 (some FieldType.int) 3 := ⟨tb_mem 1308 (by decide +kernel) rfl, tb_mem 84 (by decide +kernel) rfl, by decide +kernel, by decide⟩
theorem vi_X9_last : Cond.instanceMethod yX9_last ∈ TBg ∧ Cond.selects yX9_last.cls yX9_last yX9_last ∈ TBg := ⟨tb_mem 1307 (by decide +kernel) rfl, tb_mem 71 (by decide +kernel) rfl⟩
theorem tg_X9_burn : JTg yX9_burn cX9_burn 10 (some FieldType.int) 6 := ⟨tb_mem 1312 (by decide +kernel) rfl, tb_mem 84 (by decide +kernel) rfl, by decide +kernel, by decide⟩
theorem vi_X9_burn : Cond.instanceMethod yX9_burn ∈ TBg ∧ Cond.selects yX9_burn.cls yX9_burn yX9_burn ∈ TBg := ⟨tb_mem 1310 (by decide +kernel) rfl, tb_mem 1311 (by decide +kernel) rfl⟩
theorem tg_X9_isWrong : JTg yX9_isWrong cX9_isWrong 4 (some FieldType.boolean) 3 := ⟨tb_mem 1317 (by decide +kernel) rfl, tb_mem 84 (by decide +kernel) rfl, by decide +kernel, by decide⟩
theorem vi_X9_isWrong : Cond.instanceMethod yX9_isWrong ∈ TBg ∧ Cond.selects yX9_isWrong.cls yX9_isWrong yX9_isWrong ∈ TBg := ⟨tb_mem 1316 (by decide +kernel) rfl, tb_mem 72 (by decide +kernel) rfl⟩
theorem tg_X9_work : JTg yX9_work cX9_work 12 none 4 := ⟨tb_mem 1321 (by decide +kernel) rfl, tb_mem 84 (by decide +kernel) rfl, by decide +kernel, by decide⟩
theorem vi_X9_work : Cond.instanceMethod yX9_work ∈ TBg ∧ Cond.selects yX9_work.cls yX9_work yX9_work ∈ TBg := ⟨tb_mem 1320 (by decide +kernel) rfl, tb_mem 73 (by decide +kernel) rfl⟩
theorem tg_X9_pulse : JTg yX9_pulse cX9_pulse 6 none 4 := ⟨tb_mem 1325 (by decide +kernel) rfl, tb_mem 84 (by decide +kernel) rfl, by decide +kernel, by decide⟩
theorem vi_X9_pulse : Cond.instanceMethod yX9_pulse ∈ TBg ∧ Cond.selects yX9_pulse.cls yX9_pulse yX9_pulse ∈ TBg := ⟨tb_mem 1324 (by decide +kernel) rfl, tb_mem 74 (by decide +kernel) rfl⟩
theorem tg_X9_wrong : JTg yX9_wrong cX9_wrong 6 (some FieldType.int) 3 := ⟨tb_mem 1329 (by decide +kernel) rfl, tb_mem 84 (by decide +kernel) rfl, by decide +kernel, by decide⟩
theorem vi_X9_wrong : Cond.instanceMethod yX9_wrong ∈ TBg ∧ Cond.selects yX9_wrong.cls yX9_wrong yX9_wrong ∈ TBg := ⟨tb_mem 1327 (by decide +kernel) rfl, tb_mem 1328 (by decide +kernel) rfl⟩
theorem tg_X9_read : JTg yX9_read cX9_read 8 (some FieldType.int) 4 := ⟨tb_mem 1333 (by decide +kernel) rfl, tb_mem 84 (by decide +kernel) rfl, by decide +kernel, by decide⟩
theorem vi_X9_read : Cond.instanceMethod yX9_read ∈ TBg ∧ Cond.selects yX9_read.cls yX9_read yX9_read ∈ TBg := ⟨tb_mem 1331 (by decide +kernel) rfl, tb_mem 1332 (by decide +kernel) rfl⟩
theorem tg_X9_about : JTg yX9_about cX9_about 2 (some FieldType.int) 1 := ⟨tb_mem 1337 (by decide +kernel) rfl, tb_mem 84 (by decide +kernel) rfl, by decide +kernel, by decide⟩
theorem vi_X9_about : Cond.instanceMethod yX9_about ∈ TBg ∧ Cond.selects yX9_about.cls yX9_about yX9_about ∈ TBg := ⟨tb_mem 1335 (by decide +kernel) rfl, tb_mem 1336 (by decide +kernel) rfl⟩
theorem it_L : Cond.initialized RL ∈ TBg := tb_mem 75 (by decide +kernel) rfl
theorem it_X8 : Cond.initialized RX8 ∈ TBg := tb_mem 76 (by decide +kernel) rfl
theorem it_X6 : Cond.initialized RX6 ∈ TBg := tb_mem 77 (by decide +kernel) rfl
theorem it_X1 : Cond.initialized RX1 ∈ TBg := tb_mem 78 (by decide +kernel) rfl
theorem it_X2 : Cond.initialized RX2 ∈ TBg := tb_mem 79 (by decide +kernel) rfl
theorem it_X3 : Cond.initialized RX3 ∈ TBg := tb_mem 80 (by decide +kernel) rfl
theorem it_X5 : Cond.initialized RX5 ∈ TBg := tb_mem 81 (by decide +kernel) rfl
theorem it_X4 : Cond.initialized RX4 ∈ TBg := tb_mem 82 (by decide +kernel) rfl
theorem it_J7 : Cond.initialized RJ7 ∈ TBg := tb_mem 83 (by decide +kernel) rfl
theorem it_X9 : Cond.initialized RX9 ∈ TBg := tb_mem 84 (by decide +kernel) rfl
theorem it_J9 : Cond.initialized RJ9 ∈ TBg := tb_mem 85 (by decide +kernel) rfl
theorem it_J10 : Cond.initialized RJ10 ∈ TBg := tb_mem 86 (by decide +kernel) rfl
theorem it_X0 : Cond.initialized RX0 ∈ TBg := tb_mem 87 (by decide +kernel) rfl
theorem it_J0 : Cond.initialized RJ0 ∈ TBg := tb_mem 88 (by decide +kernel) rfl
theorem it_J1 : Cond.initialized RJ1 ∈ TBg := tb_mem 89 (by decide +kernel) rfl
theorem it_J3 : Cond.initialized RJ3 ∈ TBg := tb_mem 90 (by decide +kernel) rfl
theorem it_J2 : Cond.initialized RJ2 ∈ TBg := tb_mem 91 (by decide +kernel) rfl
theorem it_X7 : Cond.initialized RX7 ∈ TBg := tb_mem 92 (by decide +kernel) rfl
theorem cl_L_7 : Cond.classLink RL 7 RX8 ∈ TBg := tb_mem 93 (by decide +kernel) rfl
theorem in_X8 : Cond.instantiable RX8 11 ∈ TBg := tb_mem 94 (by decide +kernel) rfl
theorem cl_X8_7 : Cond.classLink RX8 7 RX6 ∈ TBg := tb_mem 101 (by decide +kernel) rfl
theorem in_X6 : Cond.instantiable RX6 2 ∈ TBg := tb_mem 102 (by decide +kernel) rfl
theorem ac_int : Cond.arrayClass .int ∈ TBg := tb_mem 114 (by decide +kernel) rfl
theorem cl_X8_20 : Cond.classLink RX8 20 RX1 ∈ TBg := tb_mem 115 (by decide +kernel) rfl
theorem in_X1 : Cond.instantiable RX1 2 ∈ TBg := tb_mem 116 (by decide +kernel) rfl
theorem cl_X8_27 : Cond.classLink RX8 27 RX2 ∈ TBg := tb_mem 130 (by decide +kernel) rfl
theorem in_X2 : Cond.instantiable RX2 9 ∈ TBg := tb_mem 131 (by decide +kernel) rfl
theorem cl_X8_36 : Cond.classLink RX8 36 RX3 ∈ TBg := tb_mem 164 (by decide +kernel) rfl
theorem in_X3 : Cond.instantiable RX3 2 ∈ TBg := tb_mem 165 (by decide +kernel) rfl
theorem cl_X8_45 : Cond.classLink RX8 45 RX5 ∈ TBg := tb_mem 177 (by decide +kernel) rfl
theorem in_X5 : Cond.instantiable RX5 8 ∈ TBg := tb_mem 178 (by decide +kernel) rfl
theorem ac_boolean : Cond.arrayClass .boolean ∈ TBg := tb_mem 208 (by decide +kernel) rfl
theorem cl_X8_52 : Cond.classLink RX8 52 RX0 ∈ TBg := tb_mem 209 (by decide +kernel) rfl
theorem cl_X8_58 : Cond.classLink RX8 58 RX4 ∈ TBg := tb_mem 211 (by decide +kernel) rfl
theorem in_X4 : Cond.instantiable RX4 8 ∈ TBg := tb_mem 213 (by decide +kernel) rfl
theorem k_X8_95 : Cond.constantLong RX8 95 2147483647 ∈ TBg := tb_mem 393 (by decide +kernel) rfl
theorem in_X0 : Cond.instantiable RX0 17 ∈ TBg := tb_mem 456 (by decide +kernel) rfl
theorem k_X4_43 : Cond.constantLong RX4 43 1000000 ∈ TBg := tb_mem 780 (by decide +kernel) rfl
theorem ac_byte : Cond.arrayClass .byte ∈ TBg := tb_mem 789 (by decide +kernel) rfl
theorem k_X8_199 : Cond.constant RX8 199 100000 ∈ TBg := tb_mem 829 (by decide +kernel) rfl
theorem cl_X8_200 : Cond.classLink RX8 200 RX7 ∈ TBg := tb_mem 830 (by decide +kernel) rfl
theorem in_X7 : Cond.instantiable RX7 7 ∈ TBg := tb_mem 831 (by decide +kernel) rfl
theorem cl_L_10 : Cond.classLink RL 10 RX9 ∈ TBg := tb_mem 905 (by decide +kernel) rfl
theorem in_X9 : Cond.instantiable RX9 56 ∈ TBg := tb_mem 906 (by decide +kernel) rfl
theorem ac_long : Cond.arrayClass .long ∈ TBg := tb_mem 1080 (by decide +kernel) rfl
theorem k_X9_216 : Cond.constantLong RX9 216 2147483647 ∈ TBg := tb_mem 1211 (by decide +kernel) rfl
theorem k_X9_218 : Cond.constant RX9 218 2147483647 ∈ TBg := tb_mem 1212 (by decide +kernel) rfl
theorem k_X9_245 : Cond.constant RX9 245 100000 ∈ TBg := tb_mem 1232 (by decide +kernel) rfl
theorem k_X9_223 : Cond.constantLong RX9 223 112 ∈ TBg := tb_mem 1242 (by decide +kernel) rfl
theorem k_X9_225 : Cond.constantLong RX9 225 116 ∈ TBg := tb_mem 1243 (by decide +kernel) rfl
theorem k_X9_284 : Cond.constantLong RX9 284 1000000 ∈ TBg := tb_mem 1252 (by decide +kernel) rfl
theorem k_X9_265 : Cond.constant RX9 265 1000001 ∈ TBg := tb_mem 1253 (by decide +kernel) rfl
theorem k_X9_310 : Cond.constant RX9 310 1000000 ∈ TBg := tb_mem 1289 (by decide +kernel) rfl
theorem lo_X0_3 : Cond.methodLink RX0 3 Lib.objectInit ∈ TBg := tb_mem 460 (by decide +kernel) rfl
theorem lo_X1_3 : Cond.methodLink RX1 3 Lib.objectInit ∈ TBg := tb_mem 120 (by decide +kernel) rfl
theorem lo_X2_3 : Cond.methodLink RX2 3 Lib.objectInit ∈ TBg := tb_mem 135 (by decide +kernel) rfl
theorem lo_X3_3 : Cond.methodLink RX3 3 Lib.objectInit ∈ TBg := tb_mem 169 (by decide +kernel) rfl
theorem lo_X4_3 : Cond.methodLink RX4 3 Lib.objectInit ∈ TBg := tb_mem 217 (by decide +kernel) rfl
theorem lo_X5_3 : Cond.methodLink RX5 3 Lib.objectInit ∈ TBg := tb_mem 182 (by decide +kernel) rfl
theorem lo_X6_3 : Cond.methodLink RX6 3 Lib.objectInit ∈ TBg := tb_mem 106 (by decide +kernel) rfl
theorem lo_X7_3 : Cond.methodLink RX7 3 Lib.objectInit ∈ TBg := tb_mem 835 (by decide +kernel) rfl
theorem lo_X8_1 : Cond.methodLink RX8 1 Lib.objectInit ∈ TBg := tb_mem 98 (by decide +kernel) rfl
theorem lo_X9_1 : Cond.methodLink RX9 1 Lib.objectInit ∈ TBg := tb_mem 910 (by decide +kernel) rfl
theorem obI : Cond.instanceMethod Lib.objectInit ∈ TBg := tb_mem 99 (by decide +kernel) rfl
theorem obC : Cond.code Lib.objectInit ⟨#[0xb1]⟩ 1 none ∈ TBg := tb_mem 100 (by decide +kernel) rfl
theorem c_bipush_6 : (Int8.ofInt (6)).toInt32 = 6 := by decide
theorem c_bipush_7 : (Int8.ofInt (7)).toInt32 = 7 := by decide
theorem c_bipush_8 : (Int8.ofInt (8)).toInt32 = 8 := by decide
theorem c_bipush_9 : (Int8.ofInt (9)).toInt32 = 9 := by decide
theorem c_bipush_10 : (Int8.ofInt (10)).toInt32 = 10 := by decide
theorem c_bipush_11 : (Int8.ofInt (11)).toInt32 = 11 := by decide
theorem c_bipush_12 : (Int8.ofInt (12)).toInt32 = 12 := by decide
theorem c_bipush_13 : (Int8.ofInt (13)).toInt32 = 13 := by decide
theorem c_bipush_15 : (Int8.ofInt (15)).toInt32 = 15 := by decide
theorem c_bipush_16 : (Int8.ofInt (16)).toInt32 = 16 := by decide
theorem c_bipush_20 : (Int8.ofInt (20)).toInt32 = 20 := by decide
theorem c_bipush_24 : (Int8.ofInt (24)).toInt32 = 24 := by decide
theorem c_bipush_27 : (Int8.ofInt (27)).toInt32 = 27 := by decide
theorem c_bipush_28 : (Int8.ofInt (28)).toInt32 = 28 := by decide
theorem c_bipush_30 : (Int8.ofInt (30)).toInt32 = 30 := by decide
theorem c_bipush_31 : (Int8.ofInt (31)).toInt32 = 31 := by decide
theorem c_bipush_32 : (Int8.ofInt (32)).toInt32 = 32 := by decide
theorem c_bipush_40 : (Int8.ofInt (40)).toInt32 = 40 := by decide
theorem c_bipush_48 : (Int8.ofInt (48)).toInt32 = 48 := by decide
theorem c_bipush_49 : (Int8.ofInt (49)).toInt32 = 49 := by decide
theorem c_bipush_50 : (Int8.ofInt (50)).toInt32 = 50 := by decide
theorem c_bipush_57 : (Int8.ofInt (57)).toInt32 = 57 := by decide
theorem c_bipush_58 : (Int8.ofInt (58)).toInt32 = 58 := by decide
theorem c_bipush_59 : (Int8.ofInt (59)).toInt32 = 59 := by decide
theorem c_bipush_60 : (Int8.ofInt (60)).toInt32 = 60 := by decide
theorem c_bipush_64 : (Int8.ofInt (64)).toInt32 = 64 := by decide
theorem c_bipush_65 : (Int8.ofInt (65)).toInt32 = 65 := by decide
theorem c_bipush_70 : (Int8.ofInt (70)).toInt32 = 70 := by decide
theorem c_bipush_83 : (Int8.ofInt (83)).toInt32 = 83 := by decide
theorem c_bipush_90 : (Int8.ofInt (90)).toInt32 = 90 := by decide
theorem c_bipush_97 : (Int8.ofInt (97)).toInt32 = 97 := by decide
theorem c_bipush_100 : (Int8.ofInt (100)).toInt32 = 100 := by decide
theorem c_bipush_101 : (Int8.ofInt (101)).toInt32 = 101 := by decide
theorem c_bipush_102 : (Int8.ofInt (102)).toInt32 = 102 := by decide
theorem c_bipush_105 : (Int8.ofInt (105)).toInt32 = 105 := by decide
theorem c_bipush_107 : (Int8.ofInt (107)).toInt32 = 107 := by decide
theorem c_bipush_108 : (Int8.ofInt (108)).toInt32 = 108 := by decide
theorem c_bipush_111 : (Int8.ofInt (111)).toInt32 = 111 := by decide
theorem c_bipush_112 : (Int8.ofInt (112)).toInt32 = 112 := by decide
theorem c_bipush_114 : (Int8.ofInt (114)).toInt32 = 114 := by decide
theorem c_bipush_115 : (Int8.ofInt (115)).toInt32 = 115 := by decide
theorem c_bipush_116 : (Int8.ofInt (116)).toInt32 = 116 := by decide
theorem c_bipush_117 : (Int8.ofInt (117)).toInt32 = 117 := by decide
theorem c_bipush_118 : (Int8.ofInt (118)).toInt32 = 118 := by decide
theorem c_bipush_121 : (Int8.ofInt (121)).toInt32 = 121 := by decide
theorem c_bipush_122 : (Int8.ofInt (122)).toInt32 = 122 := by decide
theorem c_bipush_123 : (Int8.ofInt (123)).toInt32 = 123 := by decide
theorem c_bipush_125 : (Int8.ofInt (125)).toInt32 = 125 := by decide
theorem c_iconst_m8 : Int32.ofInt (-8) = -8 := by decide
theorem c_iconst_m4 : Int32.ofInt (-4) = -4 := by decide
theorem c_iconst_m1 : Int32.ofInt (-1) = -1 := by decide
theorem c_iconst_0 : Int32.ofInt (0) = 0 := by decide
theorem c_iconst_1 : Int32.ofInt (1) = 1 := by decide
theorem c_iconst_2 : Int32.ofInt (2) = 2 := by decide
theorem c_iconst_3 : Int32.ofInt (3) = 3 := by decide
theorem c_iconst_4 : Int32.ofInt (4) = 4 := by decide
theorem c_iconst_5 : Int32.ofInt (5) = 5 := by decide
theorem c_iconst_9 : Int32.ofInt (9) = 9 := by decide
theorem c_iconst_16 : Int32.ofInt (16) = 16 := by decide
theorem c_sipush_200 : (Int16.ofInt (200)).toInt32 = 200 := by decide
theorem c_sipush_255 : (Int16.ofInt (255)).toInt32 = 255 := by decide
theorem c_sipush_256 : (Int16.ofInt (256)).toInt32 = 256 := by decide
theorem c_sipush_300 : (Int16.ofInt (300)).toInt32 = 300 := by decide
theorem c_sipush_400 : (Int16.ofInt (400)).toInt32 = 400 := by decide
theorem c_sipush_500 : (Int16.ofInt (500)).toInt32 = 500 := by decide
theorem c_sipush_1000 : (Int16.ofInt (1000)).toInt32 = 1000 := by decide
theorem c_sipush_5000 : (Int16.ofInt (5000)).toInt32 = 5000 := by decide
