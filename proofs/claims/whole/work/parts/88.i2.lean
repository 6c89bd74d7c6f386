-- the class is made: all of it
def hz : JH := (fun _ _ => 0, fun _ _ => 0, fun _ _ => none, [])
def u0 : JH := al hz (8, 11)
def u1 : JH := al u0 (6, 2)
def u3 : JH := sr (mkA u1 1 50 400 0) 0 0 (some 1)
def u4 : JH := mkA u3 0 50 256 1
def u5 : JH := al u4 (1, 2)
def u7 : JH := sr (si (si u5 4 0 (-1)) 4 1 (-1)) 0 2 (some 4)
def u8 : JH := al u7 (2, 9)
def u10 : JH := sr (sr (sr (mkA u8 5 50 256 2) 5 0 (some 1)) 5 1 (some 4)) 0 3 (some 5)
def u11 : JH := al u10 (3, 2)
def u13 : JH := sr (sr u11 7 0 (some 1)) 0 4 (some 7)
def u14 : JH := al u13 (5, 8)
def u16 : JH := sr (sr (sr (mkA (mkA u14 8 50 5 5) 8 52 5 6) 8 0 (some 1)) 8 1 (some 4)) 0 5 (some 8)
def u17 : JH := mkA u16 0 53 4 6
def u18 : JH := mkA u17 0 54 4 8
def u19 : JH := al u18 (4, 8)
def u21 : JH := sr (rcN u19 13) 0 9 (some 13)
def u22 : JH := fillN u21 3 256 255
def v0 : JH := al u22 (4, 8)
def w0 : JH := sr (rcN v0 18) 12 0 (some 18)
def v1 : JH := al w0 (4, 8)
def w1 : JH := sr (rcN v1 23) 12 1 (some 23)
def v2 : JH := al w1 (4, 8)
def w2 : JH := sr (rcN v2 28) 12 2 (some 28)
def v3 : JH := al w2 (4, 8)
def w3 : JH := sr (rcN v3 33) 12 3 (some 33)
section I2
variable {x : JX}
theorem j_X8_init : JF x yX8_init cX8_init 2 none 2 37 1793 [.ref 0] u0 none w3 := by
  refine JM_of [some (.ref 0), none] (by decide) (Nat.le_of_ble_eq_true rfl) rfl ?_
  refine J_aload_n (pq := 1) dX8_init_0 rfl rfl (J_obj (pq := 4) dX8_init_1 rfl lo_X8_1 obI obC rfl (Nat.le_of_ble_eq_true rfl) (Nat.le_of_ble_eq_true rfl) (J_aload_n (pq := 5) dX8_init_4 rfl rfl (J_new (ci := 6) (r := (RX6, TX6, 2)) (pq := 8) dX8_init_5 rfl rfl (by decide) cl_X8_7 in_X6 it_X6 (by decide +kernel) (Nat.le_of_ble_eq_true rfl) (Nat.le_of_ble_eq_true rfl) (?_))))
  refine J_eq (st' := [.ref 1, .ref 0]) (h' := u1) rfl rfl rfl ?_
  refine J_dup (pq := 9) dX8_init_8 rfl rfl (J_initF (pq := 12) dX8_init_9 rfl (j_X6_init (o := 1) rfl (by decide +kernel)) rfl tg_X6_init l_X8_9 ii_X6_init rfl (Nat.le_of_ble_eq_true rfl) (Nat.le_of_ble_eq_true rfl) (Nat.le_of_ble_eq_true rfl) (Nat.le_of_ble_eq_true rfl) (J_putR (pq := 15) dX8_init_12 rfl f_X8_10 (Or.inr ⟨rfl, _, rfl, rfl⟩) rfl rf_LTape (?_)))
  refine J_eq (st' := []) (h' := u3) rfl rfl rfl ?_
  refine J_aload_n (pq := 16) dX8_init_15 rfl rfl (J_sipush (pq := 19) dX8_init_16 rfl c_sipush_256 (J_newa (q := 50) (n := 256) (pq := 21) dX8_init_19 rfl (Or.inl ⟨rfl, rfl⟩) rfl ac_int (by decide) rfl (by decide) (by decide +kernel) (Nat.le_of_ble_eq_true rfl) (Nat.le_of_ble_eq_true rfl) (J_putR (pq := 24) dX8_init_21 rfl f_X8_16 (Or.inr ⟨rfl, _, rfl, rfl⟩) rfl rf_AI (?_))))
  refine J_eq (st' := []) (h' := u4) rfl rfl rfl ?_
  refine J_aload_n (pq := 25) dX8_init_24 rfl rfl (J_new (ci := 1) (r := (RX1, TX1, 2)) (pq := 28) dX8_init_25 rfl rfl (by decide) cl_X8_20 in_X1 it_X1 (by decide +kernel) (Nat.le_of_ble_eq_true rfl) (Nat.le_of_ble_eq_true rfl) (?_))
  refine J_eq (st' := [.ref 4, .ref 0]) (h' := u5) rfl rfl rfl ?_
  refine J_dup (pq := 29) dX8_init_28 rfl rfl (J_initF (pq := 32) dX8_init_29 rfl (j_X1_init (o := 4) rfl) rfl tg_X1_init l_X8_22 ii_X1_init rfl (Nat.le_of_ble_eq_true rfl) (Nat.le_of_ble_eq_true rfl) (Nat.le_of_ble_eq_true rfl) (Nat.le_of_ble_eq_true rfl) (J_putR (pq := 35) dX8_init_32 rfl f_X8_23 (Or.inr ⟨rfl, _, rfl, rfl⟩) rfl rf_LFinding (?_)))
  refine J_eq (st' := []) (h' := u7) rfl rfl rfl ?_
  refine J_aload_n (pq := 36) dX8_init_35 rfl rfl (J_new (ci := 2) (r := (RX2, TX2, 9)) (pq := 39) dX8_init_36 rfl rfl (by decide) cl_X8_27 in_X2 it_X2 (by decide +kernel) (Nat.le_of_ble_eq_true rfl) (Nat.le_of_ble_eq_true rfl) (?_))
  refine J_eq (st' := [.ref 5, .ref 0]) (h' := u8) rfl rfl rfl ?_
  refine J_dup (pq := 40) dX8_init_39 rfl rfl (J_aload_n (pq := 41) dX8_init_40 rfl rfl (J_getA (pq := 44) dX8_init_41 rfl f_X8_10 (by decide +kernel) rfl rfl (J_aload_n (pq := 45) dX8_init_44 rfl rfl (J_getA (pq := 48) dX8_init_45 rfl f_X8_23 (by decide +kernel) rfl rfl (J_initF (pq := 51) dX8_init_48 rfl (j_X2_init (o := 5) (a := 1) (b := 4) rfl (by decide +kernel)) rfl tg_X2_init l_X8_29 ii_X2_init rfl (Nat.le_of_ble_eq_true rfl) (Nat.le_of_ble_eq_true rfl) (Nat.le_of_ble_eq_true rfl) (Nat.le_of_ble_eq_true rfl) (J_putR (pq := 54) dX8_init_51 rfl f_X8_32 (Or.inr ⟨rfl, _, rfl, rfl⟩) rfl rf_LFormReader (?_)))))))
  refine J_eq (st' := []) (h' := u10) rfl rfl rfl ?_
  refine J_aload_n (pq := 55) dX8_init_54 rfl rfl (J_new (ci := 3) (r := (RX3, TX3, 2)) (pq := 58) dX8_init_55 rfl rfl (by decide) cl_X8_36 in_X3 it_X3 (by decide +kernel) (Nat.le_of_ble_eq_true rfl) (Nat.le_of_ble_eq_true rfl) (?_))
  refine J_eq (st' := [.ref 7, .ref 0]) (h' := u11) rfl rfl rfl ?_
  refine J_dup (pq := 59) dX8_init_58 rfl rfl (J_aload_n (pq := 60) dX8_init_59 rfl rfl (J_getA (pq := 63) dX8_init_60 rfl f_X8_10 (by decide +kernel) rfl rfl (J_initF (pq := 66) dX8_init_63 rfl (j_X3_init (o := 7) (a := 1) rfl) rfl tg_X3_init l_X8_38 ii_X3_init rfl (Nat.le_of_ble_eq_true rfl) (Nat.le_of_ble_eq_true rfl) (Nat.le_of_ble_eq_true rfl) (Nat.le_of_ble_eq_true rfl) (J_putR (pq := 69) dX8_init_66 rfl f_X8_41 (Or.inr ⟨rfl, _, rfl, rfl⟩) rfl rf_LFormWriter (?_)))))
  refine J_eq (st' := []) (h' := u13) rfl rfl rfl ?_
  refine J_aload_n (pq := 70) dX8_init_69 rfl rfl (J_new (ci := 5) (r := (RX5, TX5, 8)) (pq := 73) dX8_init_70 rfl rfl (by decide) cl_X8_45 in_X5 it_X5 (by decide +kernel) (Nat.le_of_ble_eq_true rfl) (Nat.le_of_ble_eq_true rfl) (?_))
  refine J_eq (st' := [.ref 8, .ref 0]) (h' := u14) rfl rfl rfl ?_
  refine J_dup (pq := 74) dX8_init_73 rfl rfl (J_aload_n (pq := 75) dX8_init_74 rfl rfl (J_getA (pq := 78) dX8_init_75 rfl f_X8_10 (by decide +kernel) rfl rfl (J_aload_n (pq := 79) dX8_init_78 rfl rfl (J_getA (pq := 82) dX8_init_79 rfl f_X8_23 (by decide +kernel) rfl rfl (J_initF (pq := 85) dX8_init_82 rfl (j_X5_init (o := 8) (a := 1) (b := 4) rfl (by decide +kernel)) rfl tg_X5_init l_X8_47 ii_X5_init rfl (Nat.le_of_ble_eq_true rfl) (Nat.le_of_ble_eq_true rfl) (Nat.le_of_ble_eq_true rfl) (Nat.le_of_ble_eq_true rfl) (J_putR (pq := 88) dX8_init_85 rfl f_X8_48 (Or.inr ⟨rfl, _, rfl, rfl⟩) rfl rf_LRecipeReader (?_)))))))
  refine J_eq (st' := []) (h' := u16) rfl rfl rfl ?_
  refine J_aload_n (pq := 89) dX8_init_88 rfl rfl (J_iconst (pq := 90) dX8_init_89 rfl c_iconst_4 (J_anewa (q := 53) (n := 4) (pq := 93) dX8_init_90 rfl (Or.inl ⟨rfl, rfl⟩) cl_X8_52 (by decide) rfl (by decide) (by decide +kernel) (Nat.le_of_ble_eq_true rfl) (Nat.le_of_ble_eq_true rfl) (J_putR (pq := 96) dX8_init_93 rfl f_X8_54 (Or.inr ⟨rfl, _, rfl, rfl⟩) rfl rf_ALChip (?_))))
  refine J_eq (st' := []) (h' := u17) rfl rfl rfl ?_
  refine J_aload_n (pq := 97) dX8_init_96 rfl rfl (J_iconst (pq := 98) dX8_init_97 rfl c_iconst_4 (J_anewa (q := 54) (n := 4) (pq := 101) dX8_init_98 rfl (Or.inr ⟨rfl, rfl⟩) cl_X8_58 (by decide) rfl (by decide) (by decide +kernel) (Nat.le_of_ble_eq_true rfl) (Nat.le_of_ble_eq_true rfl) (J_putR (pq := 104) dX8_init_101 rfl f_X8_60 (Or.inr ⟨rfl, _, rfl, rfl⟩) rfl rf_ALRecipe (?_))))
  refine J_eq (st' := []) (h' := u18) rfl rfl rfl ?_
  refine J_aload_n (pq := 105) dX8_init_104 rfl rfl (J_new (ci := 4) (r := (RX4, TX4, 8)) (pq := 108) dX8_init_105 rfl rfl (by decide) cl_X8_58 in_X4 it_X4 (by decide +kernel) (Nat.le_of_ble_eq_true rfl) (Nat.le_of_ble_eq_true rfl) (?_))
  refine J_eq (st' := [.ref 13, .ref 0]) (h' := u19) rfl rfl rfl ?_
  refine J_dup (pq := 109) dX8_init_108 rfl rfl (J_initF (pq := 112) dX8_init_109 rfl (j_X4_init (o := 13) rfl (by decide +kernel)) rfl tg_X4_init l_X8_64 ii_X4_init rfl (Nat.le_of_ble_eq_true rfl) (Nat.le_of_ble_eq_true rfl) (Nat.le_of_ble_eq_true rfl) (Nat.le_of_ble_eq_true rfl) (J_putR (pq := 115) dX8_init_112 rfl f_X8_65 (Or.inl rfl) rfl rf_LRecipe (?_)))
  refine J_eq (st' := []) (h' := u21) rfl rfl rfl ?_
  refine J_aload_n (pq := 116) dX8_init_115 rfl rfl (J_getA (pq := 119) dX8_init_116 rfl f_X8_16 (by decide +kernel) rfl rfl (J_sipush (pq := 122) dX8_init_119 rfl c_sipush_255 (J_statF (pq := 125) dX8_init_122 rfl (j_fill (a := 3) (n := 256) rfl (by omega)) rfl tg_J7_fill_53178 l_X8_69 st_J7_fill_53178 (Nat.le_of_ble_eq_true rfl) (Nat.zero_le _) (Nat.zero_le _) (Nat.le_of_ble_eq_true rfl) (?_))))
  refine J_eq (st' := []) (h' := u22) rfl rfl rfl ?_
  refine J_iconst (pq := 126) dX8_init_125 rfl c_iconst_0 (J_istore_m 1 (pq := 127) dX8_init_126 rfl rfl (Nat.le_of_ble_eq_true rfl) (Nat.le_of_ble_eq_true rfl) rfl (?_))
  refine J_eq (ls' := [some (.ref 0), some (.int 0)]) (st' := []) (h' := u22) rfl rfl rfl ?_
  refine J_iload_n (pq := 128) dX8_init_127 rfl rfl (J_iconst (pq := 129) dX8_init_128 rfl c_iconst_4 (J_icmp_ge (pq := 132) (tgt := 151) dX8_init_129 rfl rfl (fun c => ?_) (fun c => ?_)))
  · exact absurd c (by decide)
  refine J_aload_n (pq := 133) dX8_init_132 rfl rfl (J_getA (pq := 136) dX8_init_133 rfl f_X8_60 (by decide +kernel) rfl rfl (J_iload_n (pq := 137) dX8_init_136 rfl rfl (J_new (ci := 4) (r := (RX4, TX4, 8)) (pq := 140) dX8_init_137 rfl rfl (by decide) cl_X8_58 in_X4 it_X4 (by decide +kernel) (Nat.le_of_ble_eq_true rfl) (Nat.le_of_ble_eq_true rfl) (?_))))
  refine J_eq (st' := [.ref 18, .int 0, .ref 12]) (h' := v0) rfl rfl rfl ?_
  refine J_dup (pq := 141) dX8_init_140 rfl rfl (J_initF (pq := 144) dX8_init_141 rfl (j_X4_init (o := 18) rfl (by decide +kernel)) rfl tg_X4_init l_X8_64 ii_X4_init rfl (Nat.le_of_ble_eq_true rfl) (Nat.le_of_ble_eq_true rfl) (Nat.le_of_ble_eq_true rfl) (Nat.le_of_ble_eq_true rfl) (J_aast (Or.inr ⟨rfl, rfl⟩) (pq := 145) dX8_init_144 rfl rfl rfl (vin (by decide) (by decide)) (J_iinc (pq := 148) dX8_init_145 rfl c_iconst_1 rfl (Nat.le_of_ble_eq_true rfl) rfl (J_goto (tgt := 127) dX8_init_148 rfl (?_)))))
  refine J_eq (ls' := [some (.ref 0), some (.int 1)]) (st' := []) (h' := w0) rfl rfl rfl ?_
  refine J_iload_n (pq := 128) dX8_init_127 rfl rfl (J_iconst (pq := 129) dX8_init_128 rfl c_iconst_4 (J_icmp_ge (pq := 132) (tgt := 151) dX8_init_129 rfl rfl (fun c => ?_) (fun c => ?_)))
  · exact absurd c (by decide)
  refine J_aload_n (pq := 133) dX8_init_132 rfl rfl (J_getA (pq := 136) dX8_init_133 rfl f_X8_60 (by decide +kernel) rfl rfl (J_iload_n (pq := 137) dX8_init_136 rfl rfl (J_new (ci := 4) (r := (RX4, TX4, 8)) (pq := 140) dX8_init_137 rfl rfl (by decide) cl_X8_58 in_X4 it_X4 (by decide +kernel) (Nat.le_of_ble_eq_true rfl) (Nat.le_of_ble_eq_true rfl) (?_))))
  refine J_eq (st' := [.ref 23, .int 1, .ref 12]) (h' := v1) rfl rfl rfl ?_
  refine J_dup (pq := 141) dX8_init_140 rfl rfl (J_initF (pq := 144) dX8_init_141 rfl (j_X4_init (o := 23) rfl (by decide +kernel)) rfl tg_X4_init l_X8_64 ii_X4_init rfl (Nat.le_of_ble_eq_true rfl) (Nat.le_of_ble_eq_true rfl) (Nat.le_of_ble_eq_true rfl) (Nat.le_of_ble_eq_true rfl) (J_aast (Or.inr ⟨rfl, rfl⟩) (pq := 145) dX8_init_144 rfl rfl rfl (vin (by decide) (by decide)) (J_iinc (pq := 148) dX8_init_145 rfl c_iconst_1 rfl (Nat.le_of_ble_eq_true rfl) rfl (J_goto (tgt := 127) dX8_init_148 rfl (?_)))))
  refine J_eq (ls' := [some (.ref 0), some (.int 2)]) (st' := []) (h' := w1) rfl rfl rfl ?_
  refine J_iload_n (pq := 128) dX8_init_127 rfl rfl (J_iconst (pq := 129) dX8_init_128 rfl c_iconst_4 (J_icmp_ge (pq := 132) (tgt := 151) dX8_init_129 rfl rfl (fun c => ?_) (fun c => ?_)))
  · exact absurd c (by decide)
  refine J_aload_n (pq := 133) dX8_init_132 rfl rfl (J_getA (pq := 136) dX8_init_133 rfl f_X8_60 (by decide +kernel) rfl rfl (J_iload_n (pq := 137) dX8_init_136 rfl rfl (J_new (ci := 4) (r := (RX4, TX4, 8)) (pq := 140) dX8_init_137 rfl rfl (by decide) cl_X8_58 in_X4 it_X4 (by decide +kernel) (Nat.le_of_ble_eq_true rfl) (Nat.le_of_ble_eq_true rfl) (?_))))
  refine J_eq (st' := [.ref 28, .int 2, .ref 12]) (h' := v2) rfl rfl rfl ?_
  refine J_dup (pq := 141) dX8_init_140 rfl rfl (J_initF (pq := 144) dX8_init_141 rfl (j_X4_init (o := 28) rfl (by decide +kernel)) rfl tg_X4_init l_X8_64 ii_X4_init rfl (Nat.le_of_ble_eq_true rfl) (Nat.le_of_ble_eq_true rfl) (Nat.le_of_ble_eq_true rfl) (Nat.le_of_ble_eq_true rfl) (J_aast (Or.inr ⟨rfl, rfl⟩) (pq := 145) dX8_init_144 rfl rfl rfl (vin (by decide) (by decide)) (J_iinc (pq := 148) dX8_init_145 rfl c_iconst_1 rfl (Nat.le_of_ble_eq_true rfl) rfl (J_goto (tgt := 127) dX8_init_148 rfl (?_)))))
  refine J_eq (ls' := [some (.ref 0), some (.int 3)]) (st' := []) (h' := w2) rfl rfl rfl ?_
  refine J_iload_n (pq := 128) dX8_init_127 rfl rfl (J_iconst (pq := 129) dX8_init_128 rfl c_iconst_4 (J_icmp_ge (pq := 132) (tgt := 151) dX8_init_129 rfl rfl (fun c => ?_) (fun c => ?_)))
  · exact absurd c (by decide)
  refine J_aload_n (pq := 133) dX8_init_132 rfl rfl (J_getA (pq := 136) dX8_init_133 rfl f_X8_60 (by decide +kernel) rfl rfl (J_iload_n (pq := 137) dX8_init_136 rfl rfl (J_new (ci := 4) (r := (RX4, TX4, 8)) (pq := 140) dX8_init_137 rfl rfl (by decide) cl_X8_58 in_X4 it_X4 (by decide +kernel) (Nat.le_of_ble_eq_true rfl) (Nat.le_of_ble_eq_true rfl) (?_))))
  refine J_eq (st' := [.ref 33, .int 3, .ref 12]) (h' := v3) rfl rfl rfl ?_
  refine J_dup (pq := 141) dX8_init_140 rfl rfl (J_initF (pq := 144) dX8_init_141 rfl (j_X4_init (o := 33) rfl (by decide +kernel)) rfl tg_X4_init l_X8_64 ii_X4_init rfl (Nat.le_of_ble_eq_true rfl) (Nat.le_of_ble_eq_true rfl) (Nat.le_of_ble_eq_true rfl) (Nat.le_of_ble_eq_true rfl) (J_aast (Or.inr ⟨rfl, rfl⟩) (pq := 145) dX8_init_144 rfl rfl rfl (vin (by decide) (by decide)) (J_iinc (pq := 148) dX8_init_145 rfl c_iconst_1 rfl (Nat.le_of_ble_eq_true rfl) rfl (J_goto (tgt := 127) dX8_init_148 rfl (?_)))))
  refine J_eq (ls' := [some (.ref 0), some (.int 4)]) (st' := []) (h' := w3) rfl rfl rfl ?_
  refine J_iload_n (pq := 128) dX8_init_127 rfl rfl (J_iconst (pq := 129) dX8_init_128 rfl c_iconst_4 (J_icmp_ge (pq := 132) (tgt := 151) dX8_init_129 rfl rfl (fun c => ?_) (fun c => ?_)))
  rotate_left
  · exact absurd (by decide) c
  refine J_vret dX8_init_151 rfl ?_
  exact ⟨rfl, rfl⟩
end I2
