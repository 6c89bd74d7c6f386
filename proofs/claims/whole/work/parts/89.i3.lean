-- the reference is made
def y0 : JH := al w3 (9, 56)
def y1 : JH := mkA y0 38 50 256 0
def y2 : JH := mkA y1 38 50 400 1
def y3 : JH := si y2 38 3 (-1)
def y4 : JH := si y3 38 4 (-1)
def y5 : JH := mkA y4 38 50 256 6
def y6 : JH := mkA y5 38 52 256 7
def y7 : JH := mkA y6 38 50 200 9
def y8 : JH := mkA y7 38 50 4 13
def y9 : JH := mkA y8 38 50 4 14
def y10 : JH := mkA y9 38 52 4 15
def y11 : JH := mkA y10 38 50 4 16
def y12 : JH := mkA y11 38 50 4 17
def y13 : JH := mkA y12 38 50 4 18
def y14 : JH := mkA y13 38 50 4 19
def y15 : JH := mkA y14 38 50 4 20
def y16 : JH := mkA y15 38 50 4 21
def y17 : JH := mkA y16 38 51 4 22
def y18 : JH := mkA y17 38 50 256 23
def y19 : JH := mkA y18 38 50 256 24
def y20 : JH := mkA y19 38 50 256 25
def y21 : JH := mkA y20 38 50 256 26
def y22 : JH := mkA y21 38 50 256 27
def y23 : JH := mkA y22 38 52 32 28
def y24 : JH := mkA y23 38 52 112 29
def y25 : JH := mkA y24 38 50 5 30
def y26 : JH := mkA y25 38 50 5 31
def y27 : JH := mkA y26 38 50 500 32
def y28 : JH := mkA y27 38 50 500 33
def y29 : JH := mkA y28 38 50 500 34
def y30 : JH := mkA y29 38 50 5 35
def y31 : JH := mkA y30 38 50 5 36
def y32 : JH := mkA y31 38 50 6 41
def y33 : JH := mkA y32 38 50 6 42
def y34 : JH := mkA y33 38 50 6 43
def y35 : JH := mkA y34 38 50 6 44
def y36 : JH := mkA y35 38 50 6 45
def y37 : JH := mkA y36 38 50 6 46
def y38 : JH := mkA y37 38 50 101 52
def y39 : JH := mkA y38 38 50 100 54
def yF : JH := fillN y39 39 256 255
section I3
variable {x : JX}
theorem j_X9_init : JF x yX9_init cX9_init 2 none 1 37 4589 [.ref 38] y0 none yF := by
  refine JM_of [some (.ref 38), none] (by decide) (Nat.le_of_ble_eq_true rfl) rfl ?_
  refine J_aload_n (pq := 1) dX9_init_0 rfl rfl (J_obj (pq := 4) dX9_init_1 rfl lo_X9_1 obI obC rfl (Nat.le_of_ble_eq_true rfl) (Nat.le_of_ble_eq_true rfl) (J_aload_n (pq := 5) dX9_init_4 rfl rfl (J_sipush (pq := 8) dX9_init_5 rfl c_sipush_256 (J_newa (q := 50) (n := 256) (pq := 10) dX9_init_8 rfl (Or.inl ⟨rfl, rfl⟩) rfl ac_int (by decide) rfl (by decide) (by decide +kernel) (Nat.le_of_ble_eq_true rfl) (Nat.le_of_ble_eq_true rfl) (J_putR (pq := 13) dX9_init_10 rfl f_X9_7 (Or.inr ⟨rfl, _, rfl, rfl⟩) rfl rf_AI (?_))))))
  refine J_eq (st' := []) (h' := y1) rfl rfl rfl ?_
  refine J_aload_n (pq := 14) dX9_init_13 rfl rfl (J_sipush (pq := 17) dX9_init_14 rfl c_sipush_400 (J_newa (q := 50) (n := 400) (pq := 19) dX9_init_17 rfl (Or.inl ⟨rfl, rfl⟩) rfl ac_int (by decide) rfl (by decide) (by decide +kernel) (Nat.le_of_ble_eq_true rfl) (Nat.le_of_ble_eq_true rfl) (J_putR (pq := 22) dX9_init_19 rfl f_X9_13 (Or.inr ⟨rfl, _, rfl, rfl⟩) rfl rf_AI (?_))))
  refine J_eq (st' := []) (h' := y2) rfl rfl rfl ?_
  refine J_aload_n (pq := 23) dX9_init_22 rfl rfl (J_iconst (pq := 24) dX9_init_23 rfl c_iconst_m1 (J_putI (pq := 27) dX9_init_24 rfl f_X9_16 (Or.inl rfl) rfl (?_)))
  refine J_eq (st' := []) (h' := y3) rfl rfl rfl ?_
  refine J_aload_n (pq := 28) dX9_init_27 rfl rfl (J_iconst (pq := 29) dX9_init_28 rfl c_iconst_m1 (J_putI (pq := 32) dX9_init_29 rfl f_X9_20 (Or.inl rfl) rfl (?_)))
  refine J_eq (st' := []) (h' := y4) rfl rfl rfl ?_
  refine J_aload_n (pq := 33) dX9_init_32 rfl rfl (J_sipush (pq := 36) dX9_init_33 rfl c_sipush_256 (J_newa (q := 50) (n := 256) (pq := 38) dX9_init_36 rfl (Or.inl ⟨rfl, rfl⟩) rfl ac_int (by decide) rfl (by decide) (by decide +kernel) (Nat.le_of_ble_eq_true rfl) (Nat.le_of_ble_eq_true rfl) (J_putR (pq := 41) dX9_init_38 rfl f_X9_23 (Or.inr ⟨rfl, _, rfl, rfl⟩) rfl rf_AI (?_))))
  refine J_eq (st' := []) (h' := y5) rfl rfl rfl ?_
  refine J_aload_n (pq := 42) dX9_init_41 rfl rfl (J_sipush (pq := 45) dX9_init_42 rfl c_sipush_256 (J_newa (q := 52) (n := 256) (pq := 47) dX9_init_45 rfl (Or.inr (Or.inr ⟨rfl, rfl⟩)) rfl ac_boolean (by decide) rfl (by decide) (by decide +kernel) (Nat.le_of_ble_eq_true rfl) (Nat.le_of_ble_eq_true rfl) (J_putR (pq := 50) dX9_init_47 rfl f_X9_26 (Or.inr ⟨rfl, _, rfl, rfl⟩) rfl rf_AZ (?_))))
  refine J_eq (st' := []) (h' := y6) rfl rfl rfl ?_
  refine J_aload_n (pq := 51) dX9_init_50 rfl rfl (J_sipush (pq := 54) dX9_init_51 rfl c_sipush_200 (J_newa (q := 50) (n := 200) (pq := 56) dX9_init_54 rfl (Or.inl ⟨rfl, rfl⟩) rfl ac_int (by decide) rfl (by decide) (by decide +kernel) (Nat.le_of_ble_eq_true rfl) (Nat.le_of_ble_eq_true rfl) (J_putR (pq := 59) dX9_init_56 rfl f_X9_30 (Or.inr ⟨rfl, _, rfl, rfl⟩) rfl rf_AI (?_))))
  refine J_eq (st' := []) (h' := y7) rfl rfl rfl ?_
  refine J_aload_n (pq := 60) dX9_init_59 rfl rfl (J_iconst (pq := 61) dX9_init_60 rfl c_iconst_4 (J_newa (q := 50) (n := 4) (pq := 63) dX9_init_61 rfl (Or.inl ⟨rfl, rfl⟩) rfl ac_int (by decide) rfl (by decide) (by decide +kernel) (Nat.le_of_ble_eq_true rfl) (Nat.le_of_ble_eq_true rfl) (J_putR (pq := 66) dX9_init_63 rfl f_X9_33 (Or.inr ⟨rfl, _, rfl, rfl⟩) rfl rf_AI (?_))))
  refine J_eq (st' := []) (h' := y8) rfl rfl rfl ?_
  refine J_aload_n (pq := 67) dX9_init_66 rfl rfl (J_iconst (pq := 68) dX9_init_67 rfl c_iconst_4 (J_newa (q := 50) (n := 4) (pq := 70) dX9_init_68 rfl (Or.inl ⟨rfl, rfl⟩) rfl ac_int (by decide) rfl (by decide) (by decide +kernel) (Nat.le_of_ble_eq_true rfl) (Nat.le_of_ble_eq_true rfl) (J_putR (pq := 73) dX9_init_70 rfl f_X9_36 (Or.inr ⟨rfl, _, rfl, rfl⟩) rfl rf_AI (?_))))
  refine J_eq (st' := []) (h' := y9) rfl rfl rfl ?_
  refine J_aload_n (pq := 74) dX9_init_73 rfl rfl (J_iconst (pq := 75) dX9_init_74 rfl c_iconst_4 (J_newa (q := 52) (n := 4) (pq := 77) dX9_init_75 rfl (Or.inr (Or.inr ⟨rfl, rfl⟩)) rfl ac_boolean (by decide) rfl (by decide) (by decide +kernel) (Nat.le_of_ble_eq_true rfl) (Nat.le_of_ble_eq_true rfl) (J_putR (pq := 80) dX9_init_77 rfl f_X9_39 (Or.inr ⟨rfl, _, rfl, rfl⟩) rfl rf_AZ (?_))))
  refine J_eq (st' := []) (h' := y10) rfl rfl rfl ?_
  refine J_aload_n (pq := 81) dX9_init_80 rfl rfl (J_iconst (pq := 82) dX9_init_81 rfl c_iconst_4 (J_newa (q := 50) (n := 4) (pq := 84) dX9_init_82 rfl (Or.inl ⟨rfl, rfl⟩) rfl ac_int (by decide) rfl (by decide) (by decide +kernel) (Nat.le_of_ble_eq_true rfl) (Nat.le_of_ble_eq_true rfl) (J_putR (pq := 87) dX9_init_84 rfl f_X9_42 (Or.inr ⟨rfl, _, rfl, rfl⟩) rfl rf_AI (?_))))
  refine J_eq (st' := []) (h' := y11) rfl rfl rfl ?_
  refine J_aload_n (pq := 88) dX9_init_87 rfl rfl (J_iconst (pq := 89) dX9_init_88 rfl c_iconst_4 (J_newa (q := 50) (n := 4) (pq := 91) dX9_init_89 rfl (Or.inl ⟨rfl, rfl⟩) rfl ac_int (by decide) rfl (by decide) (by decide +kernel) (Nat.le_of_ble_eq_true rfl) (Nat.le_of_ble_eq_true rfl) (J_putR (pq := 94) dX9_init_91 rfl f_X9_45 (Or.inr ⟨rfl, _, rfl, rfl⟩) rfl rf_AI (?_))))
  refine J_eq (st' := []) (h' := y12) rfl rfl rfl ?_
  refine J_aload_n (pq := 95) dX9_init_94 rfl rfl (J_iconst (pq := 96) dX9_init_95 rfl c_iconst_4 (J_newa (q := 50) (n := 4) (pq := 98) dX9_init_96 rfl (Or.inl ⟨rfl, rfl⟩) rfl ac_int (by decide) rfl (by decide) (by decide +kernel) (Nat.le_of_ble_eq_true rfl) (Nat.le_of_ble_eq_true rfl) (J_putR (pq := 101) dX9_init_98 rfl f_X9_48 (Or.inr ⟨rfl, _, rfl, rfl⟩) rfl rf_AI (?_))))
  refine J_eq (st' := []) (h' := y13) rfl rfl rfl ?_
  refine J_aload_n (pq := 102) dX9_init_101 rfl rfl (J_iconst (pq := 103) dX9_init_102 rfl c_iconst_4 (J_newa (q := 50) (n := 4) (pq := 105) dX9_init_103 rfl (Or.inl ⟨rfl, rfl⟩) rfl ac_int (by decide) rfl (by decide) (by decide +kernel) (Nat.le_of_ble_eq_true rfl) (Nat.le_of_ble_eq_true rfl) (J_putR (pq := 108) dX9_init_105 rfl f_X9_51 (Or.inr ⟨rfl, _, rfl, rfl⟩) rfl rf_AI (?_))))
  refine J_eq (st' := []) (h' := y14) rfl rfl rfl ?_
  refine J_aload_n (pq := 109) dX9_init_108 rfl rfl (J_iconst (pq := 110) dX9_init_109 rfl c_iconst_4 (J_newa (q := 50) (n := 4) (pq := 112) dX9_init_110 rfl (Or.inl ⟨rfl, rfl⟩) rfl ac_int (by decide) rfl (by decide) (by decide +kernel) (Nat.le_of_ble_eq_true rfl) (Nat.le_of_ble_eq_true rfl) (J_putR (pq := 115) dX9_init_112 rfl f_X9_54 (Or.inr ⟨rfl, _, rfl, rfl⟩) rfl rf_AI (?_))))
  refine J_eq (st' := []) (h' := y15) rfl rfl rfl ?_
  refine J_aload_n (pq := 116) dX9_init_115 rfl rfl (J_iconst (pq := 117) dX9_init_116 rfl c_iconst_4 (J_newa (q := 50) (n := 4) (pq := 119) dX9_init_117 rfl (Or.inl ⟨rfl, rfl⟩) rfl ac_int (by decide) rfl (by decide) (by decide +kernel) (Nat.le_of_ble_eq_true rfl) (Nat.le_of_ble_eq_true rfl) (J_putR (pq := 122) dX9_init_119 rfl f_X9_57 (Or.inr ⟨rfl, _, rfl, rfl⟩) rfl rf_AI (?_))))
  refine J_eq (st' := []) (h' := y16) rfl rfl rfl ?_
  refine J_aload_n (pq := 123) dX9_init_122 rfl rfl (J_iconst (pq := 124) dX9_init_123 rfl c_iconst_4 (J_newa (q := 51) (n := 4) (pq := 126) dX9_init_124 rfl (Or.inr (Or.inl ⟨rfl, rfl⟩)) rfl ac_long (by decide) rfl (by decide) (by decide +kernel) (Nat.le_of_ble_eq_true rfl) (Nat.le_of_ble_eq_true rfl) (J_putR (pq := 129) dX9_init_126 rfl f_X9_60 (Or.inr ⟨rfl, _, rfl, rfl⟩) rfl rf_AJ (?_))))
  refine J_eq (st' := []) (h' := y17) rfl rfl rfl ?_
  refine J_aload_n (pq := 130) dX9_init_129 rfl rfl (J_sipush (pq := 133) dX9_init_130 rfl c_sipush_256 (J_newa (q := 50) (n := 256) (pq := 135) dX9_init_133 rfl (Or.inl ⟨rfl, rfl⟩) rfl ac_int (by decide) rfl (by decide) (by decide +kernel) (Nat.le_of_ble_eq_true rfl) (Nat.le_of_ble_eq_true rfl) (J_putR (pq := 138) dX9_init_135 rfl f_X9_64 (Or.inr ⟨rfl, _, rfl, rfl⟩) rfl rf_AI (?_))))
  refine J_eq (st' := []) (h' := y18) rfl rfl rfl ?_
  refine J_aload_n (pq := 139) dX9_init_138 rfl rfl (J_sipush (pq := 142) dX9_init_139 rfl c_sipush_256 (J_newa (q := 50) (n := 256) (pq := 144) dX9_init_142 rfl (Or.inl ⟨rfl, rfl⟩) rfl ac_int (by decide) rfl (by decide) (by decide +kernel) (Nat.le_of_ble_eq_true rfl) (Nat.le_of_ble_eq_true rfl) (J_putR (pq := 147) dX9_init_144 rfl f_X9_67 (Or.inr ⟨rfl, _, rfl, rfl⟩) rfl rf_AI (?_))))
  refine J_eq (st' := []) (h' := y19) rfl rfl rfl ?_
  refine J_aload_n (pq := 148) dX9_init_147 rfl rfl (J_sipush (pq := 151) dX9_init_148 rfl c_sipush_256 (J_newa (q := 50) (n := 256) (pq := 153) dX9_init_151 rfl (Or.inl ⟨rfl, rfl⟩) rfl ac_int (by decide) rfl (by decide) (by decide +kernel) (Nat.le_of_ble_eq_true rfl) (Nat.le_of_ble_eq_true rfl) (J_putR (pq := 156) dX9_init_153 rfl f_X9_70 (Or.inr ⟨rfl, _, rfl, rfl⟩) rfl rf_AI (?_))))
  refine J_eq (st' := []) (h' := y20) rfl rfl rfl ?_
  refine J_aload_n (pq := 157) dX9_init_156 rfl rfl (J_sipush (pq := 160) dX9_init_157 rfl c_sipush_256 (J_newa (q := 50) (n := 256) (pq := 162) dX9_init_160 rfl (Or.inl ⟨rfl, rfl⟩) rfl ac_int (by decide) rfl (by decide) (by decide +kernel) (Nat.le_of_ble_eq_true rfl) (Nat.le_of_ble_eq_true rfl) (J_putR (pq := 165) dX9_init_162 rfl f_X9_73 (Or.inr ⟨rfl, _, rfl, rfl⟩) rfl rf_AI (?_))))
  refine J_eq (st' := []) (h' := y21) rfl rfl rfl ?_
  refine J_aload_n (pq := 166) dX9_init_165 rfl rfl (J_sipush (pq := 169) dX9_init_166 rfl c_sipush_256 (J_newa (q := 50) (n := 256) (pq := 171) dX9_init_169 rfl (Or.inl ⟨rfl, rfl⟩) rfl ac_int (by decide) rfl (by decide) (by decide +kernel) (Nat.le_of_ble_eq_true rfl) (Nat.le_of_ble_eq_true rfl) (J_putR (pq := 174) dX9_init_171 rfl f_X9_76 (Or.inr ⟨rfl, _, rfl, rfl⟩) rfl rf_AI (?_))))
  refine J_eq (st' := []) (h' := y22) rfl rfl rfl ?_
  refine J_aload_n (pq := 175) dX9_init_174 rfl rfl (J_bipush (pq := 177) dX9_init_175 rfl c_bipush_32 (J_newa (q := 52) (n := 32) (pq := 179) dX9_init_177 rfl (Or.inr (Or.inr ⟨rfl, rfl⟩)) rfl ac_boolean (by decide) rfl (by decide) (by decide +kernel) (Nat.le_of_ble_eq_true rfl) (Nat.le_of_ble_eq_true rfl) (J_putR (pq := 182) dX9_init_179 rfl f_X9_79 (Or.inr ⟨rfl, _, rfl, rfl⟩) rfl rf_AZ (?_))))
  refine J_eq (st' := []) (h' := y23) rfl rfl rfl ?_
  refine J_aload_n (pq := 183) dX9_init_182 rfl rfl (J_bipush (pq := 185) dX9_init_183 rfl c_bipush_112 (J_newa (q := 52) (n := 112) (pq := 187) dX9_init_185 rfl (Or.inr (Or.inr ⟨rfl, rfl⟩)) rfl ac_boolean (by decide) rfl (by decide) (by decide +kernel) (Nat.le_of_ble_eq_true rfl) (Nat.le_of_ble_eq_true rfl) (J_putR (pq := 190) dX9_init_187 rfl f_X9_82 (Or.inr ⟨rfl, _, rfl, rfl⟩) rfl rf_AZ (?_))))
  refine J_eq (st' := []) (h' := y24) rfl rfl rfl ?_
  refine J_aload_n (pq := 191) dX9_init_190 rfl rfl (J_iconst (pq := 192) dX9_init_191 rfl c_iconst_5 (J_newa (q := 50) (n := 5) (pq := 194) dX9_init_192 rfl (Or.inl ⟨rfl, rfl⟩) rfl ac_int (by decide) rfl (by decide) (by decide +kernel) (Nat.le_of_ble_eq_true rfl) (Nat.le_of_ble_eq_true rfl) (J_putR (pq := 197) dX9_init_194 rfl f_X9_85 (Or.inr ⟨rfl, _, rfl, rfl⟩) rfl rf_AI (?_))))
  refine J_eq (st' := []) (h' := y25) rfl rfl rfl ?_
  refine J_aload_n (pq := 198) dX9_init_197 rfl rfl (J_iconst (pq := 199) dX9_init_198 rfl c_iconst_5 (J_newa (q := 50) (n := 5) (pq := 201) dX9_init_199 rfl (Or.inl ⟨rfl, rfl⟩) rfl ac_int (by decide) rfl (by decide) (by decide +kernel) (Nat.le_of_ble_eq_true rfl) (Nat.le_of_ble_eq_true rfl) (J_putR (pq := 204) dX9_init_201 rfl f_X9_88 (Or.inr ⟨rfl, _, rfl, rfl⟩) rfl rf_AI (?_))))
  refine J_eq (st' := []) (h' := y26) rfl rfl rfl ?_
  refine J_aload_n (pq := 205) dX9_init_204 rfl rfl (J_sipush (pq := 208) dX9_init_205 rfl c_sipush_500 (J_newa (q := 50) (n := 500) (pq := 210) dX9_init_208 rfl (Or.inl ⟨rfl, rfl⟩) rfl ac_int (by decide) rfl (by decide) (by decide +kernel) (Nat.le_of_ble_eq_true rfl) (Nat.le_of_ble_eq_true rfl) (J_putR (pq := 213) dX9_init_210 rfl f_X9_91 (Or.inr ⟨rfl, _, rfl, rfl⟩) rfl rf_AI (?_))))
  refine J_eq (st' := []) (h' := y27) rfl rfl rfl ?_
  refine J_aload_n (pq := 214) dX9_init_213 rfl rfl (J_sipush (pq := 217) dX9_init_214 rfl c_sipush_500 (J_newa (q := 50) (n := 500) (pq := 219) dX9_init_217 rfl (Or.inl ⟨rfl, rfl⟩) rfl ac_int (by decide) rfl (by decide) (by decide +kernel) (Nat.le_of_ble_eq_true rfl) (Nat.le_of_ble_eq_true rfl) (J_putR (pq := 222) dX9_init_219 rfl f_X9_94 (Or.inr ⟨rfl, _, rfl, rfl⟩) rfl rf_AI (?_))))
  refine J_eq (st' := []) (h' := y28) rfl rfl rfl ?_
  refine J_aload_n (pq := 223) dX9_init_222 rfl rfl (J_sipush (pq := 226) dX9_init_223 rfl c_sipush_500 (J_newa (q := 50) (n := 500) (pq := 228) dX9_init_226 rfl (Or.inl ⟨rfl, rfl⟩) rfl ac_int (by decide) rfl (by decide) (by decide +kernel) (Nat.le_of_ble_eq_true rfl) (Nat.le_of_ble_eq_true rfl) (J_putR (pq := 231) dX9_init_228 rfl f_X9_97 (Or.inr ⟨rfl, _, rfl, rfl⟩) rfl rf_AI (?_))))
  refine J_eq (st' := []) (h' := y29) rfl rfl rfl ?_
  refine J_aload_n (pq := 232) dX9_init_231 rfl rfl (J_iconst (pq := 233) dX9_init_232 rfl c_iconst_5 (J_newa (q := 50) (n := 5) (pq := 235) dX9_init_233 rfl (Or.inl ⟨rfl, rfl⟩) rfl ac_int (by decide) rfl (by decide) (by decide +kernel) (Nat.le_of_ble_eq_true rfl) (Nat.le_of_ble_eq_true rfl) (J_putR (pq := 238) dX9_init_235 rfl f_X9_100 (Or.inr ⟨rfl, _, rfl, rfl⟩) rfl rf_AI (?_))))
  refine J_eq (st' := []) (h' := y30) rfl rfl rfl ?_
  refine J_aload_n (pq := 239) dX9_init_238 rfl rfl (J_iconst (pq := 240) dX9_init_239 rfl c_iconst_5 (J_newa (q := 50) (n := 5) (pq := 242) dX9_init_240 rfl (Or.inl ⟨rfl, rfl⟩) rfl ac_int (by decide) rfl (by decide) (by decide +kernel) (Nat.le_of_ble_eq_true rfl) (Nat.le_of_ble_eq_true rfl) (J_putR (pq := 245) dX9_init_242 rfl f_X9_103 (Or.inr ⟨rfl, _, rfl, rfl⟩) rfl rf_AI (?_))))
  refine J_eq (st' := []) (h' := y31) rfl rfl rfl ?_
  refine J_aload_n (pq := 246) dX9_init_245 rfl rfl (J_bipush (pq := 248) dX9_init_246 rfl c_bipush_6 (J_newa (q := 50) (n := 6) (pq := 250) dX9_init_248 rfl (Or.inl ⟨rfl, rfl⟩) rfl ac_int (by decide) rfl (by decide) (by decide +kernel) (Nat.le_of_ble_eq_true rfl) (Nat.le_of_ble_eq_true rfl) (J_putR (pq := 253) dX9_init_250 rfl f_X9_106 (Or.inr ⟨rfl, _, rfl, rfl⟩) rfl rf_AI (?_))))
  refine J_eq (st' := []) (h' := y32) rfl rfl rfl ?_
  refine J_aload_n (pq := 254) dX9_init_253 rfl rfl (J_bipush (pq := 256) dX9_init_254 rfl c_bipush_6 (J_newa (q := 50) (n := 6) (pq := 258) dX9_init_256 rfl (Or.inl ⟨rfl, rfl⟩) rfl ac_int (by decide) rfl (by decide) (by decide +kernel) (Nat.le_of_ble_eq_true rfl) (Nat.le_of_ble_eq_true rfl) (J_putR (pq := 261) dX9_init_258 rfl f_X9_109 (Or.inr ⟨rfl, _, rfl, rfl⟩) rfl rf_AI (?_))))
  refine J_eq (st' := []) (h' := y33) rfl rfl rfl ?_
  refine J_aload_n (pq := 262) dX9_init_261 rfl rfl (J_bipush (pq := 264) dX9_init_262 rfl c_bipush_6 (J_newa (q := 50) (n := 6) (pq := 266) dX9_init_264 rfl (Or.inl ⟨rfl, rfl⟩) rfl ac_int (by decide) rfl (by decide) (by decide +kernel) (Nat.le_of_ble_eq_true rfl) (Nat.le_of_ble_eq_true rfl) (J_putR (pq := 269) dX9_init_266 rfl f_X9_112 (Or.inr ⟨rfl, _, rfl, rfl⟩) rfl rf_AI (?_))))
  refine J_eq (st' := []) (h' := y34) rfl rfl rfl ?_
  refine J_aload_n (pq := 270) dX9_init_269 rfl rfl (J_bipush (pq := 272) dX9_init_270 rfl c_bipush_6 (J_newa (q := 50) (n := 6) (pq := 274) dX9_init_272 rfl (Or.inl ⟨rfl, rfl⟩) rfl ac_int (by decide) rfl (by decide) (by decide +kernel) (Nat.le_of_ble_eq_true rfl) (Nat.le_of_ble_eq_true rfl) (J_putR (pq := 277) dX9_init_274 rfl f_X9_115 (Or.inr ⟨rfl, _, rfl, rfl⟩) rfl rf_AI (?_))))
  refine J_eq (st' := []) (h' := y35) rfl rfl rfl ?_
  refine J_aload_n (pq := 278) dX9_init_277 rfl rfl (J_bipush (pq := 280) dX9_init_278 rfl c_bipush_6 (J_newa (q := 50) (n := 6) (pq := 282) dX9_init_280 rfl (Or.inl ⟨rfl, rfl⟩) rfl ac_int (by decide) rfl (by decide) (by decide +kernel) (Nat.le_of_ble_eq_true rfl) (Nat.le_of_ble_eq_true rfl) (J_putR (pq := 285) dX9_init_282 rfl f_X9_118 (Or.inr ⟨rfl, _, rfl, rfl⟩) rfl rf_AI (?_))))
  refine J_eq (st' := []) (h' := y36) rfl rfl rfl ?_
  refine J_aload_n (pq := 286) dX9_init_285 rfl rfl (J_bipush (pq := 288) dX9_init_286 rfl c_bipush_6 (J_newa (q := 50) (n := 6) (pq := 290) dX9_init_288 rfl (Or.inl ⟨rfl, rfl⟩) rfl ac_int (by decide) rfl (by decide) (by decide +kernel) (Nat.le_of_ble_eq_true rfl) (Nat.le_of_ble_eq_true rfl) (J_putR (pq := 293) dX9_init_290 rfl f_X9_121 (Or.inr ⟨rfl, _, rfl, rfl⟩) rfl rf_AI (?_))))
  refine J_eq (st' := []) (h' := y37) rfl rfl rfl ?_
  refine J_aload_n (pq := 294) dX9_init_293 rfl rfl (J_bipush (pq := 296) dX9_init_294 rfl c_bipush_101 (J_newa (q := 50) (n := 101) (pq := 298) dX9_init_296 rfl (Or.inl ⟨rfl, rfl⟩) rfl ac_int (by decide) rfl (by decide) (by decide +kernel) (Nat.le_of_ble_eq_true rfl) (Nat.le_of_ble_eq_true rfl) (J_putR (pq := 301) dX9_init_298 rfl f_X9_124 (Or.inr ⟨rfl, _, rfl, rfl⟩) rfl rf_AI (?_))))
  refine J_eq (st' := []) (h' := y38) rfl rfl rfl ?_
  refine J_aload_n (pq := 302) dX9_init_301 rfl rfl (J_bipush (pq := 304) dX9_init_302 rfl c_bipush_100 (J_newa (q := 50) (n := 100) (pq := 306) dX9_init_304 rfl (Or.inl ⟨rfl, rfl⟩) rfl ac_int (by decide) rfl (by decide) (by decide +kernel) (Nat.le_of_ble_eq_true rfl) (Nat.le_of_ble_eq_true rfl) (J_putR (pq := 309) dX9_init_306 rfl f_X9_127 (Or.inr ⟨rfl, _, rfl, rfl⟩) rfl rf_AI (?_))))
  refine J_eq (st' := []) (h' := y39) rfl rfl rfl ?_
  refine J_iconst (pq := 310) dX9_init_309 rfl c_iconst_0 (J_istore_m 1 (pq := 311) dX9_init_310 rfl rfl (Nat.le_of_ble_eq_true rfl) (Nat.le_of_ble_eq_true rfl) rfl (?_))
  refine J_loop (σ := Nat) (fun k => [some (.ref 38), some (.int (nI k))]) (fun _ => []) (fun k => fillN y39 39 k 255) (fun k => k ≤ 256) (fun k => 256 - k) 0 rfl rfl (fillN_0 _ _ _).symm (Nat.zero_le _) (fun k hk ih => ?_)
  have l256 : (256 : Int32) = nI 256 := rfl
  have ka : (kd (fillN y39 39 k 255))[38]? = some (9, 56) := show (kd y39)[38]? = _ from rfl
  have kb : (kd (fillN y39 39 k 255))[39]? = some (50, 256) := show (kd y39)[39]? = _ from rfl
  have kc : gr (fillN y39 39 k 255) 38 0 = some 39 := show gr y39 38 0 = _ from rfl
  refine J_iload_n (pq := 312) dX9_init_311 rfl rfl (J_sipush (pq := 315) dX9_init_312 rfl c_sipush_256 (J_icmp_ge (pq := 318) (tgt := 333) dX9_init_315 rfl rfl (fun c => ?_) (fun c => ?_)))
  · rw [l256, nI_leI (by omega) (by omega)] at c
    have hk2 : k = 256 := by omega
    refine J_vret dX9_init_333 rfl ?_
    exact ⟨rfl, by rw [hk2]; rfl⟩
  · rw [l256, nI_leI (by omega) (by omega)] at c
    have hb : vp_in (nI k) 256 := vp_in_nI (by omega) (by omega)
    refine J_aload_n (pq := 319) dX9_init_318 rfl rfl (J_getA (pq := 322) dX9_init_319 rfl f_X9_7 (by decide +kernel) ka kc (J_iload_n (pq := 323) dX9_init_322 rfl rfl (J_sipush (pq := 326) dX9_init_323 rfl c_sipush_255 (J_iast (pq := 327) dX9_init_326 rfl kb (by assumption) (?_)))))
    rw [ixn (by omega), fillN_s]
    refine J_iinc (pq := 330) dX9_init_327 rfl c_iconst_1 rfl (Nat.le_of_ble_eq_true rfl) rfl (J_goto (tgt := 311) dX9_init_330 rfl (?_))
    rw [nI_1]
    exact ih (k + 1) (by omega) (by omega)
end I3
