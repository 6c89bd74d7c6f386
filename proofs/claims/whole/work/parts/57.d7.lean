-- the class: a chip is put in
section D7
variable {x : JX} {h : JH} {q s nc : Nat}
def chOk (sz id le mo be ex li : Int32) (nc : Nat) : Bool := isin sz 8 64 && decide (sz - sz / 8 * 8 = 0) && isin id 0 255 && isin le 1 30 && isin mo le 30 && isin be 1 200 && isin ex 0 5 && isin li 0 50 && decide (nc < 4)
theorem j_X8_chip_no {sz id er le mo be ex li : Int32} (hK : Kin h) (hX : XR h) (hn : gi h 0 7 = nI nc) (hn4 : nc ≤ 4) (ho : chOk sz id le mo be ex li nc = false) : JF x yX8_chip cX8_chip 11 (some .int) 3 8 373 [.ref 0, .int sz, .int id, .int er, .int le, .int mo, .int be, .int ex, .int li] h (some (.int (-1))) h := by
  refine JM_of [some (.ref 0), some (.int sz), some (.int id), some (.int er), some (.int le), some (.int mo), some (.int be), some (.int ex), some (.int li), none, none] (by decide) (Nat.le_of_ble_eq_true rfl) rfl ?_
  have ho : (szOk sz && isin id 0 255 && isin le 1 30 && isin mo le 30 && isin be 1 200 && isin ex 0 5 && isin li 0 50 && decide (nc < 4)) = false := ho
  refine J_cut (σ := Unit) 78 (fun _ => [some (.ref 0), some (.int sz), some (.int id), some (.int er), some (.int le), some (.int mo), some (.int be), some (.int ex), some (.int li), none, none]) (fun _ => []) (fun _ => h) (fun _ => True) (fun _ _ => ?_) (fun k78 => ?_)
  · refine J_iconst (pq := 79) dX8_chip_78 rfl c_iconst_0 (J_istore (pq := 81) dX8_chip_79 rfl (Nat.le_of_ble_eq_true rfl) (Nat.le_of_ble_eq_true rfl) rfl (J_iload (pq := 83) dX8_chip_81 rfl rfl (J_if_eq (pq := 86) (tgt := 94) dX8_chip_83 rfl rfl (fun c => ?_) (fun c => ?_))))
    · refine J_iconst (pq := 95) dX8_chip_94 rfl c_iconst_m1 (J_iret dX8_chip_95 rfl rfl ?_)
      exact ⟨rfl, rfl⟩
    · exact absurd rfl c
  refine J_iload_n (pq := 1) dX8_chip_0 rfl rfl (J_statF (pq := 4) dX8_chip_1 rfl (j_X8_isSize) rfl tg_X8_isSize l_X8_125 st_X8_isSize (Nat.le_of_ble_eq_true rfl) (Nat.zero_le _) (Nat.zero_le _) (Nat.le_of_ble_eq_true rfl) (J_if_eq (pq := 7) (tgt := 78) dX8_chip_4 rfl rfl (fun c => ?_) (fun c => ?_)))
  · exact k78 () trivial
  rw [bi_0, Bool.not_eq_false] at c
  rw [c, Bool.true_and] at ho
  refine J_iload_n (pq := 8) dX8_chip_7 rfl rfl (J_iconst (pq := 9) dX8_chip_8 rfl c_iconst_0 (J_sipush (pq := 12) dX8_chip_9 rfl c_sipush_255 (J_statF (pq := 15) dX8_chip_12 rfl (j_X8_isWithin) rfl tg_X8_isWithin l_X8_87 st_X8_isWithin (Nat.le_of_ble_eq_true rfl) (Nat.zero_le _) (Nat.zero_le _) (Nat.le_of_ble_eq_true rfl) (J_if_eq (pq := 18) (tgt := 78) dX8_chip_15 rfl rfl (fun c => ?_) (fun c => ?_)))))
  · exact k78 () trivial
  rw [bi_0, Bool.not_eq_false] at c
  rw [c, Bool.true_and] at ho
  refine J_iload (pq := 20) dX8_chip_18 rfl rfl (J_iconst (pq := 21) dX8_chip_20 rfl c_iconst_1 (J_bipush (pq := 23) dX8_chip_21 rfl c_bipush_30 (J_statF (pq := 26) dX8_chip_23 rfl (j_X8_isWithin) rfl tg_X8_isWithin l_X8_87 st_X8_isWithin (Nat.le_of_ble_eq_true rfl) (Nat.zero_le _) (Nat.zero_le _) (Nat.le_of_ble_eq_true rfl) (J_if_eq (pq := 29) (tgt := 78) dX8_chip_26 rfl rfl (fun c => ?_) (fun c => ?_)))))
  · exact k78 () trivial
  rw [bi_0, Bool.not_eq_false] at c
  rw [c, Bool.true_and] at ho
  refine J_iload (pq := 31) dX8_chip_29 rfl rfl (J_iload (pq := 33) dX8_chip_31 rfl rfl (J_bipush (pq := 35) dX8_chip_33 rfl c_bipush_30 (J_statF (pq := 38) dX8_chip_35 rfl (j_X8_isWithin) rfl tg_X8_isWithin l_X8_87 st_X8_isWithin (Nat.le_of_ble_eq_true rfl) (Nat.zero_le _) (Nat.zero_le _) (Nat.le_of_ble_eq_true rfl) (J_if_eq (pq := 41) (tgt := 78) dX8_chip_38 rfl rfl (fun c => ?_) (fun c => ?_)))))
  · exact k78 () trivial
  rw [bi_0, Bool.not_eq_false] at c
  rw [c, Bool.true_and] at ho
  refine J_iload (pq := 43) dX8_chip_41 rfl rfl (J_iconst (pq := 44) dX8_chip_43 rfl c_iconst_1 (J_sipush (pq := 47) dX8_chip_44 rfl c_sipush_200 (J_statF (pq := 50) dX8_chip_47 rfl (j_X8_isWithin) rfl tg_X8_isWithin l_X8_87 st_X8_isWithin (Nat.le_of_ble_eq_true rfl) (Nat.zero_le _) (Nat.zero_le _) (Nat.le_of_ble_eq_true rfl) (J_if_eq (pq := 53) (tgt := 78) dX8_chip_50 rfl rfl (fun c => ?_) (fun c => ?_)))))
  · exact k78 () trivial
  rw [bi_0, Bool.not_eq_false] at c
  rw [c, Bool.true_and] at ho
  refine J_iload (pq := 55) dX8_chip_53 rfl rfl (J_iconst (pq := 56) dX8_chip_55 rfl c_iconst_0 (J_iconst (pq := 57) dX8_chip_56 rfl c_iconst_5 (J_statF (pq := 60) dX8_chip_57 rfl (j_X8_isWithin) rfl tg_X8_isWithin l_X8_87 st_X8_isWithin (Nat.le_of_ble_eq_true rfl) (Nat.zero_le _) (Nat.zero_le _) (Nat.le_of_ble_eq_true rfl) (J_if_eq (pq := 63) (tgt := 78) dX8_chip_60 rfl rfl (fun c => ?_) (fun c => ?_)))))
  · exact k78 () trivial
  rw [bi_0, Bool.not_eq_false] at c
  rw [c, Bool.true_and] at ho
  refine J_iload (pq := 65) dX8_chip_63 rfl rfl (J_iconst (pq := 66) dX8_chip_65 rfl c_iconst_0 (J_bipush (pq := 68) dX8_chip_66 rfl c_bipush_50 (J_statF (pq := 71) dX8_chip_68 rfl (j_X8_isWithin) rfl tg_X8_isWithin l_X8_87 st_X8_isWithin (Nat.le_of_ble_eq_true rfl) (Nat.zero_le _) (Nat.zero_le _) (Nat.le_of_ble_eq_true rfl) (J_if_eq (pq := 74) (tgt := 78) dX8_chip_71 rfl rfl (fun c => ?_) (fun c => ?_)))))
  · exact k78 () trivial
  rw [bi_0, Bool.not_eq_false] at c
  rw [c, Bool.true_and, decide_eq_false_iff_not] at ho
  refine J_iconst (pq := 75) dX8_chip_74 rfl c_iconst_1 (J_goto (tgt := 79) dX8_chip_75 rfl (J_istore (pq := 81) dX8_chip_79 rfl (Nat.le_of_ble_eq_true rfl) (Nat.le_of_ble_eq_true rfl) rfl (J_iload (pq := 83) dX8_chip_81 rfl rfl (J_if_eq (pq := 86) (tgt := 94) dX8_chip_83 rfl rfl (fun c => ?_) (fun c => ?_)))))
  · exact absurd c (by decide)
  refine J_aload_n (pq := 87) dX8_chip_86 rfl rfl (J_getI (pq := 90) dX8_chip_87 rfl f_X8_128 jsI (by first | exact hc0 | exact hd0 | exact hK.at rfl) (J_iconst (pq := 91) dX8_chip_90 rfl c_iconst_4 (J_icmp_lt (pq := 94) (tgt := 96) dX8_chip_91 rfl rfl (fun c => ?_) (fun c => ?_))))
  · rw [hn, show (4 : Int32) = nI 4 from rfl, nI_ltI (by omega) (by omega)] at c; omega
  · refine J_iconst (pq := 95) dX8_chip_94 rfl c_iconst_m1 (J_iret dX8_chip_95 rfl rfl ?_)
    exact ⟨rfl, rfl⟩
theorem j_X8_chip {id er le mo be ex li : Int32} (hK : Kin h) (hX : XR h) (hn : gi h 0 7 = nI nc) (hn4 : nc ≤ 4) (hq : (kd h).length = q) (hq76 : 76 ≤ q) (hll : (kd h).length + 8 < 1000000000) (hs1 : 1 ≤ s) (hs2 : s ≤ 8) (her : er = 0 ∨ er = 1) (ho : chOk (nI (8 * s)) id le mo be ex li nc = true) : JF x yX8_chip cX8_chip 11 (some .int) 3 8 373 [.ref 0, .int (nI (8 * s)), .int id, .int er, .int le, .int mo, .int be, .int ex, .int li] h (some (.int (nI nc))) (si (sr (si (si (si (si (si (ch9 h q s id er) q 3 le) q 4 mo) q 5 be) q 6 ex) q 7 li) 11 nc (some q)) 0 7 (nI (nc + 1))) := by
  refine JM_of [some (.ref 0), some (.int (nI (8 * s))), some (.int id), some (.int er), some (.int le), some (.int mo), some (.int be), some (.int ex), some (.int li), none, none] (by decide) (Nat.le_of_ble_eq_true rfl) rfl ?_
  have ho : (szOk (nI (8 * s)) && isin id 0 255 && isin le 1 30 && isin mo le 30 && isin be 1 200 && isin ex 0 5 && isin li 0 50 && decide (nc < 4)) = true := ho
  obtain ⟨ho, o8⟩ := Bool.and_eq_true_iff.mp ho
  obtain ⟨ho, o7⟩ := Bool.and_eq_true_iff.mp ho
  obtain ⟨ho, o6⟩ := Bool.and_eq_true_iff.mp ho
  obtain ⟨ho, o5⟩ := Bool.and_eq_true_iff.mp ho
  obtain ⟨ho, o4⟩ := Bool.and_eq_true_iff.mp ho
  obtain ⟨ho, o3⟩ := Bool.and_eq_true_iff.mp ho
  obtain ⟨o1, o2⟩ := Bool.and_eq_true_iff.mp ho
  rw [decide_eq_true_eq] at o8
  obtain ⟨n1, n2, n3, n4, n5, n6, n7, n8, n9, n10⟩ := ch_N (h := h) (id := id) (er := er) hq hs1 hs2
  refine J_iload_n (pq := 1) dX8_chip_0 rfl rfl (J_statF (pq := 4) dX8_chip_1 rfl (j_X8_isSize) rfl tg_X8_isSize l_X8_125 st_X8_isSize (Nat.le_of_ble_eq_true rfl) (Nat.zero_le _) (Nat.zero_le _) (Nat.le_of_ble_eq_true rfl) (J_if_eq (pq := 7) (tgt := 78) dX8_chip_4 rfl rfl (fun c => ?_) (fun c => ?_)))
  · rw [o1] at c; exact absurd c (by decide)
  refine J_iload_n (pq := 8) dX8_chip_7 rfl rfl (J_iconst (pq := 9) dX8_chip_8 rfl c_iconst_0 (J_sipush (pq := 12) dX8_chip_9 rfl c_sipush_255 (J_statF (pq := 15) dX8_chip_12 rfl (j_X8_isWithin) rfl tg_X8_isWithin l_X8_87 st_X8_isWithin (Nat.le_of_ble_eq_true rfl) (Nat.zero_le _) (Nat.zero_le _) (Nat.le_of_ble_eq_true rfl) (J_if_eq (pq := 18) (tgt := 78) dX8_chip_15 rfl rfl (fun c => ?_) (fun c => ?_)))))
  · rw [o2] at c; exact absurd c (by decide)
  refine J_iload (pq := 20) dX8_chip_18 rfl rfl (J_iconst (pq := 21) dX8_chip_20 rfl c_iconst_1 (J_bipush (pq := 23) dX8_chip_21 rfl c_bipush_30 (J_statF (pq := 26) dX8_chip_23 rfl (j_X8_isWithin) rfl tg_X8_isWithin l_X8_87 st_X8_isWithin (Nat.le_of_ble_eq_true rfl) (Nat.zero_le _) (Nat.zero_le _) (Nat.le_of_ble_eq_true rfl) (J_if_eq (pq := 29) (tgt := 78) dX8_chip_26 rfl rfl (fun c => ?_) (fun c => ?_)))))
  · rw [o3] at c; exact absurd c (by decide)
  refine J_iload (pq := 31) dX8_chip_29 rfl rfl (J_iload (pq := 33) dX8_chip_31 rfl rfl (J_bipush (pq := 35) dX8_chip_33 rfl c_bipush_30 (J_statF (pq := 38) dX8_chip_35 rfl (j_X8_isWithin) rfl tg_X8_isWithin l_X8_87 st_X8_isWithin (Nat.le_of_ble_eq_true rfl) (Nat.zero_le _) (Nat.zero_le _) (Nat.le_of_ble_eq_true rfl) (J_if_eq (pq := 41) (tgt := 78) dX8_chip_38 rfl rfl (fun c => ?_) (fun c => ?_)))))
  · rw [o4] at c; exact absurd c (by decide)
  refine J_iload (pq := 43) dX8_chip_41 rfl rfl (J_iconst (pq := 44) dX8_chip_43 rfl c_iconst_1 (J_sipush (pq := 47) dX8_chip_44 rfl c_sipush_200 (J_statF (pq := 50) dX8_chip_47 rfl (j_X8_isWithin) rfl tg_X8_isWithin l_X8_87 st_X8_isWithin (Nat.le_of_ble_eq_true rfl) (Nat.zero_le _) (Nat.zero_le _) (Nat.le_of_ble_eq_true rfl) (J_if_eq (pq := 53) (tgt := 78) dX8_chip_50 rfl rfl (fun c => ?_) (fun c => ?_)))))
  · rw [o5] at c; exact absurd c (by decide)
  refine J_iload (pq := 55) dX8_chip_53 rfl rfl (J_iconst (pq := 56) dX8_chip_55 rfl c_iconst_0 (J_iconst (pq := 57) dX8_chip_56 rfl c_iconst_5 (J_statF (pq := 60) dX8_chip_57 rfl (j_X8_isWithin) rfl tg_X8_isWithin l_X8_87 st_X8_isWithin (Nat.le_of_ble_eq_true rfl) (Nat.zero_le _) (Nat.zero_le _) (Nat.le_of_ble_eq_true rfl) (J_if_eq (pq := 63) (tgt := 78) dX8_chip_60 rfl rfl (fun c => ?_) (fun c => ?_)))))
  · rw [o6] at c; exact absurd c (by decide)
  refine J_iload (pq := 65) dX8_chip_63 rfl rfl (J_iconst (pq := 66) dX8_chip_65 rfl c_iconst_0 (J_bipush (pq := 68) dX8_chip_66 rfl c_bipush_50 (J_statF (pq := 71) dX8_chip_68 rfl (j_X8_isWithin) rfl tg_X8_isWithin l_X8_87 st_X8_isWithin (Nat.le_of_ble_eq_true rfl) (Nat.zero_le _) (Nat.zero_le _) (Nat.le_of_ble_eq_true rfl) (J_if_eq (pq := 74) (tgt := 78) dX8_chip_71 rfl rfl (fun c => ?_) (fun c => ?_)))))
  · rw [o7] at c; exact absurd c (by decide)
  refine J_iconst (pq := 75) dX8_chip_74 rfl c_iconst_1 (J_goto (tgt := 79) dX8_chip_75 rfl (J_istore (pq := 81) dX8_chip_79 rfl (Nat.le_of_ble_eq_true rfl) (Nat.le_of_ble_eq_true rfl) rfl (J_iload (pq := 83) dX8_chip_81 rfl rfl (J_if_eq (pq := 86) (tgt := 94) dX8_chip_83 rfl rfl (fun c => ?_) (fun c => ?_)))))
  · exact absurd c (by decide)
  refine J_aload_n (pq := 87) dX8_chip_86 rfl rfl (J_getI (pq := 90) dX8_chip_87 rfl f_X8_128 jsI (by first | exact hc0 | exact hd0 | exact hK.at rfl) (J_iconst (pq := 91) dX8_chip_90 rfl c_iconst_4 (J_icmp_lt (pq := 94) (tgt := 96) dX8_chip_91 rfl rfl (fun c => ?_) (fun c => ?_))))
  rotate_left
  · rw [hn, show (4 : Int32) = nI 4 from rfl, nI_ltI (by omega) (by omega)] at c; omega
  have k0 : (kd (ch0 h))[q]? = some (0, 17) := al_new hq
  refine J_new (ci := 0) (r := (RX0, TX0, 17)) (pq := 99) dX8_chip_96 rfl rfl (by decide) cl_X8_52 in_X0 it_X0 (by omega) (Nat.le_of_ble_eq_true rfl) (Nat.le_of_ble_eq_true rfl) (?_)
  rw [hq]
  refine J_eq (h' := ch0 h) rfl rfl rfl ?_
  refine J_dup (pq := 100) dX8_chip_99 rfl rfl (J_iload_n (pq := 101) dX8_chip_100 rfl rfl (J_iload_n (pq := 102) dX8_chip_101 rfl rfl (J_iload_n (pq := 103) dX8_chip_102 rfl rfl (J_initF (pq := 106) dX8_chip_103 rfl (j_X0_init hq hll hs1 hs2 her) rfl tg_X0_init l_X8_131 ii_X0_init k0 (Nat.le_of_ble_eq_true rfl) (Nat.le_of_ble_eq_true rfl) (Nat.le_of_ble_eq_true rfl) (Nat.le_of_ble_eq_true rfl) (?_)))))
  have hc0 := n2.1.1
  generalize hG : ch9 h q s id er = G at *
  have hKG : Kin G := by obtain ⟨r', hr'⟩ := hK; exact ⟨r' ++ _, by rw [n1, hr', List.append_assoc]⟩
  have hXG : XR G := fun o k a hk => by
    have h38 : o < 38 := by unfold xrt at hk; split at hk <;> first | omega | cases hk
    rw [n9 _ _ (by omega)]; exact hX o k a hk
  have e7 : gi G 0 7 = nI nc := by rw [n8 0 7 (by omega)]; exact hn
  have hb4 : vp_in (nI nc) 4 := vp_in_nI (by omega) (by omega)
  refine J_astore (pq := 108) dX8_chip_106 rfl (Nat.le_of_ble_eq_true rfl) (Nat.le_of_ble_eq_true rfl) rfl (J_aload (pq := 110) dX8_chip_108 rfl rfl (J_iload (pq := 112) dX8_chip_110 rfl rfl (J_iload (pq := 114) dX8_chip_112 rfl rfl (J_iload (pq := 116) dX8_chip_114 rfl rfl (J_virtF (pq := 119) dX8_chip_116 rfl (j_X0_setLimits hc0) rfl tg_X0_setLimits l_X8_134 vi_X0_setLimits hc0 ⟨by decide, rfl⟩ (Nat.le_of_ble_eq_true rfl) (Nat.zero_le _) (Nat.zero_le _) (Nat.le_of_ble_eq_true rfl) (J_aload (pq := 121) dX8_chip_119 rfl rfl (J_iload (pq := 123) dX8_chip_121 rfl rfl (J_iload (pq := 125) dX8_chip_123 rfl rfl (J_virtF (pq := 128) dX8_chip_125 rfl (j_X0_setWear hc0) rfl tg_X0_setWear l_X8_138 vi_X0_setWear hc0 ⟨by decide, rfl⟩ (Nat.le_of_ble_eq_true rfl) (Nat.zero_le _) (Nat.zero_le _) (Nat.le_of_ble_eq_true rfl) (?_))))))))))
  have e7' : gi (si (si (si (si (si G q 3 le) q 4 mo) q 5 be) q 6 ex) q 7 li) 0 7 = nI nc := by
    rw [gi_si, if_neg (by omega), gi_si, if_neg (by omega), gi_si, if_neg (by omega), gi_si, if_neg (by omega), gi_si, if_neg (by omega)]; exact e7
  generalize hG2 : si (si (si (si (si G q 3 le) q 4 mo) q 5 be) q 6 ex) q 7 li = G2 at *
  have hK2 : Kin G2 := by rw [← hG2]; exact hKG
  have hX2 : XR G2 := by rw [← hG2]; exact hXG
  have hc2 : (kd G2)[q]? = some (0, 17) := by rw [← hG2]; exact hc0
  refine J_aload_n (pq := 129) dX8_chip_128 rfl rfl (J_getA (pq := 132) dX8_chip_129 rfl f_X8_54 (by decide +kernel) (hK2.at rfl) (hX2 _ _ _ rfl) (J_aload_n (pq := 133) dX8_chip_132 rfl rfl (J_getI (pq := 136) dX8_chip_133 rfl f_X8_128 jsI (hK2.at rfl) (?_))))
  rw [e7']
  refine J_aload (pq := 138) dX8_chip_136 rfl rfl (J_aast (Or.inl ⟨rfl, rfl⟩) (pq := 139) dX8_chip_138 rfl (hK2.at rfl) hc2 (by assumption) (J_aload_n (pq := 140) dX8_chip_139 rfl rfl (J_dup (pq := 141) dX8_chip_140 rfl rfl (?_))))
  rw [ixn (by omega)]
  have e7s : gi (sr G2 11 nc (some q)) 0 7 = nI nc := e7'
  have hK3 : Kin (sr G2 11 nc (some q)) := hK2
  refine J_getI (pq := 144) dX8_chip_141 rfl f_X8_128 jsI (hK3.at rfl) (?_)
  rw [e7s]
  refine J_iconst (pq := 145) dX8_chip_144 rfl c_iconst_1 (J_iadd (pq := 146) dX8_chip_145 rfl (J_putI (pq := 149) dX8_chip_146 rfl f_X8_128 (Or.inl rfl) (hK3.at rfl) (?_)))
  rw [nI_1]
  refine J_aload_n (pq := 150) dX8_chip_149 rfl rfl (J_getI (pq := 153) dX8_chip_150 rfl f_X8_128 jsI (hK3.at rfl) (J_iconst (pq := 154) dX8_chip_153 rfl c_iconst_1 (J_isub (pq := 155) dX8_chip_154 rfl (J_iret dX8_chip_155 rfl rfl ?_))))
  refine ⟨?_, rfl⟩
  rw [gi_si, if_pos ⟨rfl, rfl⟩, nI_pred]
end D7
