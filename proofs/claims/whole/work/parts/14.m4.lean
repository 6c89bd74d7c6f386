-- the reference: chips made and wiped, feeding, reading back
theorem c64 (i : Nat) : (64 : Int32) * nI i + 64 = nI (64 * i + 64) := by rw [im64, show (64 : Int32) = nI 64 from rfl, nI_add]
/-- the reference's four bytes -/
def mFour (h : JH) (v : Int32) : JH := mAdd (mAdd (mAdd (mAdd h (v >>> 24 &&& 255)) (v >>> 16 &&& 255)) (v >>> 8 &&& 255)) (v >>> 0 &&& 255)
theorem Kin_mAdd {h : JH} {b : Int32} (hK : Kin h) : Kin (mAdd h b) := hK
theorem MR_mAdd {h : JH} {b : Int32} (hR : MR h) : MR (mAdd h b) := hR
theorem mAdd_n {h : JH} {b : Int32} : gi (mAdd h b) 38 2 = gi h 38 2 + 1 := by simp [mAdd, gi_si]
section M4
variable {x : JX} {h : JH} {nc : Nat} {s : Nat → Nat}
theorem j_X9_four {v : Int32} {n : Nat} (hK : Kin h) (hR : MR h) (hn : gi h 38 2 = nI n) (hn4 : n + 4 ≤ 400) : JF x yX9_four cX9_four 3 none 0 0 0 [.ref 38, .int v] h none (mFour h v) := by
  refine JM_of [some (.ref 38), some (.int v), none] (by decide) (Nat.le_of_ble_eq_true rfl) rfl ?_
  have e0 : gi h 38 2 = nI n := hn
  have e1 : ∀ b, gi (mAdd h b) 38 2 = nI (n + 1) := fun b => by rw [mAdd_n, hn, nI_1]
  have e2 : ∀ b b', gi (mAdd (mAdd h b) b') 38 2 = nI (n + 2) := fun b b' => by rw [mAdd_n, e1, nI_1]
  have e3 : ∀ b b' b'', gi (mAdd (mAdd (mAdd h b) b') b'') 38 2 = nI (n + 3) := fun b b' b'' => by rw [mAdd_n, e2, nI_1]
  refine J_bipush (pq := 2) dX9_four_0 rfl c_bipush_24 (J_istore_m 2 (pq := 3) dX9_four_2 rfl rfl (Nat.le_of_ble_eq_true rfl) (Nat.le_of_ble_eq_true rfl) rfl (?_))
  refine J_iload_n (pq := 4) dX9_four_3 rfl rfl (J_if_lt (pq := 7) (tgt := 39) dX9_four_4 rfl rfl (fun c => ?_) (fun c => ?_))
  · exact absurd c (by decide)
  · have hb : vp_in (gi h 38 2) 400 := vinN e0 (by omega) (by omega)
    refine J_aload_n (pq := 8) dX9_four_7 rfl rfl (J_getA (pq := 11) dX9_four_8 rfl f_X9_13 (by decide +kernel) (hK.at rfl) (hR _ _ rfl) (J_aload_n (pq := 12) dX9_four_11 rfl rfl (J_getI (pq := 15) dX9_four_12 rfl f_X9_130 jsI (hK.at rfl) (J_iload_n (pq := 16) dX9_four_15 rfl rfl (J_iload_n (pq := 17) dX9_four_16 rfl rfl (J_ishr (pq := 18) dX9_four_17 rfl (J_sipush (pq := 21) dX9_four_18 rfl c_sipush_255 (J_iand (pq := 22) dX9_four_21 rfl (J_iast (pq := 23) dX9_four_22 rfl (hK.at rfl) (by assumption) (J_aload_n (pq := 24) dX9_four_23 rfl rfl (J_dup (pq := 25) dX9_four_24 rfl rfl (J_getI (pq := 28) dX9_four_25 rfl f_X9_130 jsI (hK.at rfl) (J_iconst (pq := 29) dX9_four_28 rfl c_iconst_1 (J_iadd (pq := 30) dX9_four_29 rfl (J_putI (pq := 33) dX9_four_30 rfl f_X9_130 (Or.inl rfl) (hK.at rfl) (J_iinc (pq := 36) dX9_four_33 rfl c_iconst_m8 rfl (Nat.le_of_ble_eq_true rfl) rfl (J_goto (tgt := 3) dX9_four_36 rfl (?_))))))))))))))))))
    refine J_eq (h' := mAdd h (v >>> 24 &&& 255)) rfl rfl (by simp [mAdd, gi_si]; rfl) ?_
    refine J_iload_n (pq := 4) dX9_four_3 rfl rfl (J_if_lt (pq := 7) (tgt := 39) dX9_four_4 rfl rfl (fun c => ?_) (fun c => ?_))
    · exact absurd c (by decide)
    · have hb : vp_in (gi (mAdd h (v >>> 24 &&& 255)) 38 2) 400 := vinN (e1 _) (by omega) (by omega)
      refine J_aload_n (pq := 8) dX9_four_7 rfl rfl (J_getA (pq := 11) dX9_four_8 rfl f_X9_13 (by decide +kernel) (hK.at rfl) (hR _ _ rfl) (J_aload_n (pq := 12) dX9_four_11 rfl rfl (J_getI (pq := 15) dX9_four_12 rfl f_X9_130 jsI (hK.at rfl) (J_iload_n (pq := 16) dX9_four_15 rfl rfl (J_iload_n (pq := 17) dX9_four_16 rfl rfl (J_ishr (pq := 18) dX9_four_17 rfl (J_sipush (pq := 21) dX9_four_18 rfl c_sipush_255 (J_iand (pq := 22) dX9_four_21 rfl (J_iast (pq := 23) dX9_four_22 rfl (hK.at rfl) (by assumption) (J_aload_n (pq := 24) dX9_four_23 rfl rfl (J_dup (pq := 25) dX9_four_24 rfl rfl (J_getI (pq := 28) dX9_four_25 rfl f_X9_130 jsI (hK.at rfl) (J_iconst (pq := 29) dX9_four_28 rfl c_iconst_1 (J_iadd (pq := 30) dX9_four_29 rfl (J_putI (pq := 33) dX9_four_30 rfl f_X9_130 (Or.inl rfl) (hK.at rfl) (J_iinc (pq := 36) dX9_four_33 rfl c_iconst_m8 rfl (Nat.le_of_ble_eq_true rfl) rfl (J_goto (tgt := 3) dX9_four_36 rfl (?_))))))))))))))))))
      refine J_eq (h' := mAdd (mAdd h (v >>> 24 &&& 255)) (v >>> 16 &&& 255)) rfl rfl (by simp [mAdd, gi_si]; rfl) ?_
      refine J_iload_n (pq := 4) dX9_four_3 rfl rfl (J_if_lt (pq := 7) (tgt := 39) dX9_four_4 rfl rfl (fun c => ?_) (fun c => ?_))
      · exact absurd c (by decide)
      · have hb : vp_in (gi (mAdd (mAdd h (v >>> 24 &&& 255)) (v >>> 16 &&& 255)) 38 2) 400 := vinN (e2 _ _) (by omega) (by omega)
        refine J_aload_n (pq := 8) dX9_four_7 rfl rfl (J_getA (pq := 11) dX9_four_8 rfl f_X9_13 (by decide +kernel) (hK.at rfl) (hR _ _ rfl) (J_aload_n (pq := 12) dX9_four_11 rfl rfl (J_getI (pq := 15) dX9_four_12 rfl f_X9_130 jsI (hK.at rfl) (J_iload_n (pq := 16) dX9_four_15 rfl rfl (J_iload_n (pq := 17) dX9_four_16 rfl rfl (J_ishr (pq := 18) dX9_four_17 rfl (J_sipush (pq := 21) dX9_four_18 rfl c_sipush_255 (J_iand (pq := 22) dX9_four_21 rfl (J_iast (pq := 23) dX9_four_22 rfl (hK.at rfl) (by assumption) (J_aload_n (pq := 24) dX9_four_23 rfl rfl (J_dup (pq := 25) dX9_four_24 rfl rfl (J_getI (pq := 28) dX9_four_25 rfl f_X9_130 jsI (hK.at rfl) (J_iconst (pq := 29) dX9_four_28 rfl c_iconst_1 (J_iadd (pq := 30) dX9_four_29 rfl (J_putI (pq := 33) dX9_four_30 rfl f_X9_130 (Or.inl rfl) (hK.at rfl) (J_iinc (pq := 36) dX9_four_33 rfl c_iconst_m8 rfl (Nat.le_of_ble_eq_true rfl) rfl (J_goto (tgt := 3) dX9_four_36 rfl (?_))))))))))))))))))
        refine J_eq (h' := mAdd (mAdd (mAdd h (v >>> 24 &&& 255)) (v >>> 16 &&& 255)) (v >>> 8 &&& 255)) rfl rfl (by simp [mAdd, gi_si]; rfl) ?_
        refine J_iload_n (pq := 4) dX9_four_3 rfl rfl (J_if_lt (pq := 7) (tgt := 39) dX9_four_4 rfl rfl (fun c => ?_) (fun c => ?_))
        · exact absurd c (by decide)
        · have hb : vp_in (gi (mAdd (mAdd (mAdd h (v >>> 24 &&& 255)) (v >>> 16 &&& 255)) (v >>> 8 &&& 255)) 38 2) 400 := vinN (e3 _ _ _) (by omega) (by omega)
          refine J_aload_n (pq := 8) dX9_four_7 rfl rfl (J_getA (pq := 11) dX9_four_8 rfl f_X9_13 (by decide +kernel) (hK.at rfl) (hR _ _ rfl) (J_aload_n (pq := 12) dX9_four_11 rfl rfl (J_getI (pq := 15) dX9_four_12 rfl f_X9_130 jsI (hK.at rfl) (J_iload_n (pq := 16) dX9_four_15 rfl rfl (J_iload_n (pq := 17) dX9_four_16 rfl rfl (J_ishr (pq := 18) dX9_four_17 rfl (J_sipush (pq := 21) dX9_four_18 rfl c_sipush_255 (J_iand (pq := 22) dX9_four_21 rfl (J_iast (pq := 23) dX9_four_22 rfl (hK.at rfl) (by assumption) (J_aload_n (pq := 24) dX9_four_23 rfl rfl (J_dup (pq := 25) dX9_four_24 rfl rfl (J_getI (pq := 28) dX9_four_25 rfl f_X9_130 jsI (hK.at rfl) (J_iconst (pq := 29) dX9_four_28 rfl c_iconst_1 (J_iadd (pq := 30) dX9_four_29 rfl (J_putI (pq := 33) dX9_four_30 rfl f_X9_130 (Or.inl rfl) (hK.at rfl) (J_iinc (pq := 36) dX9_four_33 rfl c_iconst_m8 rfl (Nat.le_of_ble_eq_true rfl) rfl (J_goto (tgt := 3) dX9_four_36 rfl (?_))))))))))))))))))
          refine J_eq (h' := mFour h v) rfl rfl (by simp [mFour, mAdd, gi_si]) ?_
          refine J_iload_n (pq := 4) dX9_four_3 rfl rfl (J_if_lt (pq := 7) (tgt := 39) dX9_four_4 rfl rfl (fun c => ?_) (fun c => ?_))
          · refine J_vret dX9_four_39 rfl ?_
            exact ⟨rfl, rfl⟩
          · exact absurd (by decide) c
theorem j_X9_chip {sz id er le mo be ex li : Int32} (hW : MW h nc s) : JF x yX9_chip cX9_chip 11 (some .int) 1 0 0 [.ref 38, .int sz, .int id, .int er, .int le, .int mo, .int be, .int ex, .int li] h
    (some (.int (if (isin sz 8 64 && decide (sz - sz / 8 * 8 = 0) && isin id 0 255 && isin le 1 30 && isin mo le 30 && isin be 1 200 && isin ex 0 5 && isin li 0 50 && decide (nc < 4)) then nI nc else -1)))
    (if (isin sz 8 64 && decide (sz - sz / 8 * 8 = 0) && isin id 0 255 && isin le 1 30 && isin mo le 30 && isin be 1 200 && isin ex 0 5 && isin li 0 50 && decide (nc < 4)) then si (rowN (si (si (si (si (si (si (si (si h 44 nc sz) 45 nc id) 46 nc (er &&& 1)) 47 nc le) 48 nc mo) 49 nc be) 50 nc ex) 51 nc li) (64 * nc) 64 fCh) 38 12 (nI (nc + 1)) else h) := by
  have hW0 := hW
  obtain ⟨hK, hR, hc, hc4, hs⟩ := hW
  refine JM_of [some (.ref 38), some (.int sz), some (.int id), some (.int er), some (.int le), some (.int mo), some (.int be), some (.int ex), some (.int li), none, none] (by decide) (Nat.le_of_ble_eq_true rfl) rfl ?_
  generalize hcnd : (isin sz 8 64 && decide (sz - sz / 8 * 8 = 0) && isin id 0 255 && isin le 1 30 && isin mo le 30 && isin be 1 200 && isin ex 0 5 && isin li 0 50 && decide (nc < 4)) = cnd
  refine J_cut (σ := Int32) 105 (fun b => [some (.ref 38), some (.int sz), some (.int id), some (.int er), some (.int le), some (.int mo), some (.int be), some (.int ex), some (.int li), some (.int b), none]) (fun _ => []) (fun _ => h) (fun _ => cnd = false) (fun b hb => ?_) (fun k105 => ?_)
  · refine J_iconst (pq := 106) dX9_chip_105 rfl c_iconst_m1 (J_iret dX9_chip_106 rfl rfl ?_)
    exact ⟨by rw [hb]; rfl, by rw [hb]; rfl⟩
  refine J_cut (σ := Unit) 52 (fun _ => [some (.ref 38), some (.int sz), some (.int id), some (.int er), some (.int le), some (.int mo), some (.int be), some (.int ex), some (.int li), none, none]) (fun _ => []) (fun _ => h) (fun _ => cnd = false) (fun _ hb => ?_) (fun k52 => ?_)
  · refine J_iconst (pq := 53) dX9_chip_52 rfl c_iconst_1 (J_goto (tgt := 57) dX9_chip_53 rfl (J_istore (pq := 59) dX9_chip_57 rfl (Nat.le_of_ble_eq_true rfl) (Nat.le_of_ble_eq_true rfl) rfl (J_iload (pq := 61) dX9_chip_59 rfl rfl (J_if_ne (pq := 64) (tgt := 105) dX9_chip_61 rfl rfl (fun c => ?_) (fun c => ?_)))))
    · exact k105 1 hb
    · exact absurd c (by decide)
  refine J_iload_n (pq := 1) dX9_chip_0 rfl rfl (J_bipush (pq := 3) dX9_chip_1 rfl c_bipush_8 (J_bipush (pq := 5) dX9_chip_3 rfl c_bipush_64 (J_statF (pq := 8) dX9_chip_5 rfl (j_X9_isIn) rfl tg_X9_isIn l_X9_137 st_X9_isIn (Nat.le_of_ble_eq_true rfl) (Nat.zero_le _) (Nat.zero_le _) (Nat.le_of_ble_eq_true rfl) (J_if_eq (pq := 11) (tgt := 52) dX9_chip_8 rfl rfl (fun c => ?_) (fun c => ?_)))))
  · rw [bi_0] at c
    exact k52 () (by rw [← hcnd, c]; simp)
  · rw [bi_0, Bool.not_eq_false] at c
    have c1 := c
    refine J_iload_n (pq := 12) dX9_chip_11 rfl rfl (J_bipush (pq := 14) dX9_chip_12 rfl c_bipush_8 (J_irem (pq := 15) dX9_chip_14 rfl (by decide) (J_if_ne (pq := 18) (tgt := 52) dX9_chip_15 rfl rfl (fun c => ?_) (fun c => ?_))))
    · exact k52 () (by rw [← hcnd, show decide (sz - sz / 8 * 8 = 0) = false by simpa using c]; simp)
    · have c2 : decide (sz - sz / 8 * 8 = 0) = true := by simpa using c
      refine J_iload_n (pq := 19) dX9_chip_18 rfl rfl (J_iconst (pq := 20) dX9_chip_19 rfl c_iconst_0 (J_sipush (pq := 23) dX9_chip_20 rfl c_sipush_255 (J_statF (pq := 26) dX9_chip_23 rfl (j_X9_isIn) rfl tg_X9_isIn l_X9_137 st_X9_isIn (Nat.le_of_ble_eq_true rfl) (Nat.zero_le _) (Nat.zero_le _) (Nat.le_of_ble_eq_true rfl) (J_if_eq (pq := 29) (tgt := 52) dX9_chip_26 rfl rfl (fun c => ?_) (fun c => ?_)))))
      · rw [bi_0] at c
        exact k52 () (by rw [← hcnd, c]; simp)
      · rw [bi_0, Bool.not_eq_false] at c
        have c3 := c
        refine J_iload (pq := 31) dX9_chip_29 rfl rfl (J_iconst (pq := 32) dX9_chip_31 rfl c_iconst_1 (J_bipush (pq := 34) dX9_chip_32 rfl c_bipush_30 (J_statF (pq := 37) dX9_chip_34 rfl (j_X9_isIn) rfl tg_X9_isIn l_X9_137 st_X9_isIn (Nat.le_of_ble_eq_true rfl) (Nat.zero_le _) (Nat.zero_le _) (Nat.le_of_ble_eq_true rfl) (J_if_eq (pq := 40) (tgt := 52) dX9_chip_37 rfl rfl (fun c => ?_) (fun c => ?_)))))
        · rw [bi_0] at c
          exact k52 () (by rw [← hcnd, c]; simp)
        · rw [bi_0, Bool.not_eq_false] at c
          have c4 := c
          refine J_iload (pq := 42) dX9_chip_40 rfl rfl (J_iload (pq := 44) dX9_chip_42 rfl rfl (J_bipush (pq := 46) dX9_chip_44 rfl c_bipush_30 (J_statF (pq := 49) dX9_chip_46 rfl (j_X9_isIn) rfl tg_X9_isIn l_X9_137 st_X9_isIn (Nat.le_of_ble_eq_true rfl) (Nat.zero_le _) (Nat.zero_le _) (Nat.le_of_ble_eq_true rfl) (J_if_ne (pq := 52) (tgt := 56) dX9_chip_49 rfl rfl (fun c => ?_) (fun c => ?_)))))
          · rw [bi_0, Bool.not_eq_false] at c
            have c5 := c
            refine J_iconst (pq := 57) dX9_chip_56 rfl c_iconst_0 (J_istore (pq := 59) dX9_chip_57 rfl (Nat.le_of_ble_eq_true rfl) (Nat.le_of_ble_eq_true rfl) rfl (J_iload (pq := 61) dX9_chip_59 rfl rfl (J_if_ne (pq := 64) (tgt := 105) dX9_chip_61 rfl rfl (fun c => ?_) (fun c => ?_))))
            · exact absurd rfl c
            · refine J_iload (pq := 66) dX9_chip_64 rfl rfl (J_iconst (pq := 67) dX9_chip_66 rfl c_iconst_1 (J_sipush (pq := 70) dX9_chip_67 rfl c_sipush_200 (J_statF (pq := 73) dX9_chip_70 rfl (j_X9_isIn) rfl tg_X9_isIn l_X9_137 st_X9_isIn (Nat.le_of_ble_eq_true rfl) (Nat.zero_le _) (Nat.zero_le _) (Nat.le_of_ble_eq_true rfl) (J_if_eq (pq := 76) (tgt := 105) dX9_chip_73 rfl rfl (fun c => ?_) (fun c => ?_)))))
              · rw [bi_0] at c
                exact k105 0 (by rw [← hcnd, c]; simp)
              · rw [bi_0, Bool.not_eq_false] at c
                have c6 := c
                refine J_iload (pq := 78) dX9_chip_76 rfl rfl (J_iconst (pq := 79) dX9_chip_78 rfl c_iconst_0 (J_iconst (pq := 80) dX9_chip_79 rfl c_iconst_5 (J_statF (pq := 83) dX9_chip_80 rfl (j_X9_isIn) rfl tg_X9_isIn l_X9_137 st_X9_isIn (Nat.le_of_ble_eq_true rfl) (Nat.zero_le _) (Nat.zero_le _) (Nat.le_of_ble_eq_true rfl) (J_if_eq (pq := 86) (tgt := 105) dX9_chip_83 rfl rfl (fun c => ?_) (fun c => ?_)))))
                · rw [bi_0] at c
                  exact k105 0 (by rw [← hcnd, c]; simp)
                · rw [bi_0, Bool.not_eq_false] at c
                  have c7 := c
                  refine J_iload (pq := 88) dX9_chip_86 rfl rfl (J_iconst (pq := 89) dX9_chip_88 rfl c_iconst_0 (J_bipush (pq := 91) dX9_chip_89 rfl c_bipush_50 (J_statF (pq := 94) dX9_chip_91 rfl (j_X9_isIn) rfl tg_X9_isIn l_X9_137 st_X9_isIn (Nat.le_of_ble_eq_true rfl) (Nat.zero_le _) (Nat.zero_le _) (Nat.le_of_ble_eq_true rfl) (J_if_eq (pq := 97) (tgt := 105) dX9_chip_94 rfl rfl (fun c => ?_) (fun c => ?_)))))
                  · rw [bi_0] at c
                    exact k105 0 (by rw [← hcnd, c]; simp)
                  · rw [bi_0, Bool.not_eq_false] at c
                    have c8 := c
                    refine J_aload_n (pq := 98) dX9_chip_97 rfl rfl (J_getI (pq := 101) dX9_chip_98 rfl f_X9_196 jsI (hK.at rfl) (J_iconst (pq := 102) dX9_chip_101 rfl c_iconst_4 (J_icmp_ne (pq := 105) (tgt := 107) dX9_chip_102 rfl rfl (fun c => ?_) (fun c => ?_))))
                    · rw [hc, show (4 : Int32) = nI 4 from rfl, nI_eq (by omega) (by omega)] at c
                      have c4lt : _ < 4 := Nat.lt_of_le_of_ne hc4 c
                      have hct : cnd = true := by rw [← hcnd, c1, c2, c3, c4, c5, c6, c7, c8]; simp; exact c4lt
                      have hb : vp_in (gi h 38 12) 4 := vinN hc c4lt (by omega)
                      have hxc : ix (nI nc) = nc := ixn (by omega)
                      refine J_aload_n (pq := 108) dX9_chip_107 rfl rfl (J_getA (pq := 111) dX9_chip_108 rfl f_X9_33 (by decide +kernel) (hK.at rfl) (hR _ _ rfl) (J_aload_n (pq := 112) dX9_chip_111 rfl rfl (J_getI (pq := 115) dX9_chip_112 rfl f_X9_196 jsI (hK.at rfl) (J_iload_n (pq := 116) dX9_chip_115 rfl rfl (J_iast (pq := 117) dX9_chip_116 rfl (hK.at rfl) (by assumption) (J_aload_n (pq := 118) dX9_chip_117 rfl rfl (J_getA (pq := 121) dX9_chip_118 rfl f_X9_36 (by decide +kernel) (hK.at rfl) (hR _ _ rfl) (J_aload_n (pq := 122) dX9_chip_121 rfl rfl (J_getI (pq := 125) dX9_chip_122 rfl f_X9_196 jsI (hK.at rfl) (J_iload_n (pq := 126) dX9_chip_125 rfl rfl (J_iast (pq := 127) dX9_chip_126 rfl (hK.at rfl) (by assumption) (J_aload_n (pq := 128) dX9_chip_127 rfl rfl (J_getA (pq := 131) dX9_chip_128 rfl f_X9_39 (by decide +kernel) (hK.at rfl) (hR _ _ rfl) (J_aload_n (pq := 132) dX9_chip_131 rfl rfl (J_getI (pq := 135) dX9_chip_132 rfl f_X9_196 jsI (hK.at rfl) (J_iload_n (pq := 136) dX9_chip_135 rfl rfl (J_zast (pq := 137) dX9_chip_136 rfl (hK.at rfl) (by assumption) (J_aload_n (pq := 138) dX9_chip_137 rfl rfl (J_getA (pq := 141) dX9_chip_138 rfl f_X9_42 (by decide +kernel) (hK.at rfl) (hR _ _ rfl) (J_aload_n (pq := 142) dX9_chip_141 rfl rfl (J_getI (pq := 145) dX9_chip_142 rfl f_X9_196 jsI (hK.at rfl) (J_iload (pq := 147) dX9_chip_145 rfl rfl (J_iast (pq := 148) dX9_chip_147 rfl (hK.at rfl) (by assumption) (J_aload_n (pq := 149) dX9_chip_148 rfl rfl (J_getA (pq := 152) dX9_chip_149 rfl f_X9_45 (by decide +kernel) (hK.at rfl) (hR _ _ rfl) (J_aload_n (pq := 153) dX9_chip_152 rfl rfl (J_getI (pq := 156) dX9_chip_153 rfl f_X9_196 jsI (hK.at rfl) (J_iload (pq := 158) dX9_chip_156 rfl rfl (J_iast (pq := 159) dX9_chip_158 rfl (hK.at rfl) (by assumption) (J_aload_n (pq := 160) dX9_chip_159 rfl rfl (J_getA (pq := 163) dX9_chip_160 rfl f_X9_48 (by decide +kernel) (hK.at rfl) (hR _ _ rfl) (J_aload_n (pq := 164) dX9_chip_163 rfl rfl (J_getI (pq := 167) dX9_chip_164 rfl f_X9_196 jsI (hK.at rfl) (J_iload (pq := 169) dX9_chip_167 rfl rfl (J_iast (pq := 170) dX9_chip_169 rfl (hK.at rfl) (by assumption) (J_aload_n (pq := 171) dX9_chip_170 rfl rfl (J_getA (pq := 174) dX9_chip_171 rfl f_X9_51 (by decide +kernel) (hK.at rfl) (hR _ _ rfl) (J_aload_n (pq := 175) dX9_chip_174 rfl rfl (J_getI (pq := 178) dX9_chip_175 rfl f_X9_196 jsI (hK.at rfl) (J_iload (pq := 180) dX9_chip_178 rfl rfl (J_iast (pq := 181) dX9_chip_180 rfl (hK.at rfl) (by assumption) (J_aload_n (pq := 182) dX9_chip_181 rfl rfl (J_getA (pq := 185) dX9_chip_182 rfl f_X9_54 (by decide +kernel) (hK.at rfl) (hR _ _ rfl) (J_aload_n (pq := 186) dX9_chip_185 rfl rfl (J_getI (pq := 189) dX9_chip_186 rfl f_X9_196 jsI (hK.at rfl) (J_iload (pq := 191) dX9_chip_189 rfl rfl (J_iast (pq := 192) dX9_chip_191 rfl (hK.at rfl) (by assumption) (J_bipush (pq := 194) dX9_chip_192 rfl c_bipush_64 (J_aload_n (pq := 195) dX9_chip_194 rfl rfl (J_getI (pq := 198) dX9_chip_195 rfl f_X9_196 jsI (hK.at rfl) (J_imul (pq := 199) dX9_chip_198 rfl (J_istore (pq := 201) dX9_chip_199 rfl (Nat.le_of_ble_eq_true rfl) (Nat.le_of_ble_eq_true rfl) rfl (?_)))))))))))))))))))))))))))))))))))))))))))))))))))))
                      simp only [gi_si, hc, hxc]
                      simp only [show (38 = 44) = False by simp, show (38 = 45) = False by simp, show (38 = 46) = False by simp, show (38 = 47) = False by simp, show (38 = 48) = False by simp, show (38 = 49) = False by simp, show (38 = 50) = False by simp, show (38 = 51) = False by simp, false_and, if_false, hc, hxc]
                      rw [hct]
                      refine J_loop (σ := Nat) (fun k => [some (.ref 38), some (.int sz), some (.int id), some (.int er), some (.int le), some (.int mo), some (.int be), some (.int ex), some (.int li), some (.int 0), some (.int (nI (64 * nc + k)))]) (fun _ => []) (fun k => rowN (si (si (si (si (si (si (si (si h 44 nc sz) 45 nc id) 46 nc (er &&& 1)) 47 nc le) 48 nc mo) 49 nc be) 50 nc ex) 51 nc li) (64 * nc) k fCh) (fun k => k ≤ 64) (fun k => 64 - k) 0 (by rw [im64]; rfl) rfl (rowN_0 _ _ _).symm (by omega) (fun k hk ih => ?_)
                      generalize hh0 : (si (si (si (si (si (si (si (si h 44 nc sz) 45 nc id) 46 nc (er &&& 1)) 47 nc le) 48 nc mo) 49 nc be) 50 nc ex) 51 nc li) = h0 at ih ⊢
                      have hK0 : Kin h0 := by rw [← hh0]; exact hK
                      have hR0 : MR h0 := by rw [← hh0]; exact hR
                      have hc0 : gi h0 38 12 = nI nc := by rw [← hh0]; simp [gi_si, hc]
                      have hcr : ∀ k, gi (rowN h0 (64 * nc) k fCh) 38 12 = nI nc := fun k => by rw [gi_rowN, hc0]; simp [fCh]
                      refine J_iload (pq := 203) dX9_chip_201 rfl rfl (J_bipush (pq := 205) dX9_chip_203 rfl c_bipush_64 (J_aload_n (pq := 206) dX9_chip_205 rfl rfl (J_getI (pq := 209) dX9_chip_206 rfl f_X9_196 jsI (hK0.at rfl) (J_imul (pq := 210) dX9_chip_209 rfl (J_bipush (pq := 212) dX9_chip_210 rfl c_bipush_64 (J_iadd (pq := 213) dX9_chip_212 rfl (J_icmp_ge (pq := 216) (tgt := 258) dX9_chip_213 rfl rfl (fun c => ?_) (fun c => ?_))))))))
                      · rw [hcr, c64, nI_leI (by omega) (by omega)] at c
                        refine J_aload_n (pq := 259) dX9_chip_258 rfl rfl (J_dup (pq := 260) dX9_chip_259 rfl rfl (J_getI (pq := 263) dX9_chip_260 rfl f_X9_196 jsI (hK0.at rfl) (J_iconst (pq := 264) dX9_chip_263 rfl c_iconst_1 (J_iadd (pq := 265) dX9_chip_264 rfl (J_putI (pq := 268) dX9_chip_265 rfl f_X9_196 (Or.inl rfl) (hK0.at rfl) (J_aload_n (pq := 269) dX9_chip_268 rfl rfl (J_getI (pq := 272) dX9_chip_269 rfl f_X9_196 jsI (hK0.at rfl) (J_iconst (pq := 273) dX9_chip_272 rfl c_iconst_1 (J_isub (pq := 274) dX9_chip_273 rfl (J_iret dX9_chip_274 rfl rfl ?_))))))))))
                        have hk64 : k = 64 := by omega
                        subst hk64
                        refine ⟨?_, ?_⟩
                        · simp only [gi_si, hcr]
                          simp [nI_pred, nI_1]
                        · simp only [hcr, nI_1]; rfl
                      · rw [hcr, c64, nI_leI (by omega) (by omega)] at c
                        have hb : vp_in (nI (64 * nc + k)) 256 := vp_in_nI (by omega) (by omega)
                        have hx : ix (nI (64 * nc + k)) = 64 * nc + k := ixn (by omega)
                        refine J_aload_n (pq := 217) dX9_chip_216 rfl rfl (J_getA (pq := 220) dX9_chip_217 rfl f_X9_64 (by decide +kernel) (hK0.at rfl) (hR0 _ _ rfl) (J_iload (pq := 222) dX9_chip_220 rfl rfl (J_sipush (pq := 225) dX9_chip_222 rfl c_sipush_255 (J_iast (pq := 226) dX9_chip_225 rfl (hK0.at rfl) (by assumption) (J_aload_n (pq := 227) dX9_chip_226 rfl rfl (J_getA (pq := 230) dX9_chip_227 rfl f_X9_67 (by decide +kernel) (hK0.at rfl) (hR0 _ _ rfl) (J_iload (pq := 232) dX9_chip_230 rfl rfl (J_sipush (pq := 235) dX9_chip_232 rfl c_sipush_255 (J_iast (pq := 236) dX9_chip_235 rfl (hK0.at rfl) (by assumption) (J_aload_n (pq := 237) dX9_chip_236 rfl rfl (J_getA (pq := 240) dX9_chip_237 rfl f_X9_70 (by decide +kernel) (hK0.at rfl) (hR0 _ _ rfl) (J_iload (pq := 242) dX9_chip_240 rfl rfl (J_iconst (pq := 243) dX9_chip_242 rfl c_iconst_3 (J_iast (pq := 244) dX9_chip_243 rfl (hK0.at rfl) (by assumption) (J_aload_n (pq := 245) dX9_chip_244 rfl rfl (J_getA (pq := 248) dX9_chip_245 rfl f_X9_76 (by decide +kernel) (hK0.at rfl) (hR0 _ _ rfl) (J_iload (pq := 250) dX9_chip_248 rfl rfl (J_iconst (pq := 251) dX9_chip_250 rfl c_iconst_m1 (J_iast (pq := 252) dX9_chip_251 rfl (hK0.at rfl) (by assumption) (J_iinc (pq := 255) dX9_chip_252 rfl c_iconst_1 rfl (Nat.le_of_ble_eq_true rfl) rfl (J_goto (tgt := 201) dX9_chip_255 rfl (?_))))))))))))))))))))))
                        refine J_eq ?_ rfl ?_ (ih (k + 1) (by omega) (by omega))
                        · simp [nI_1, Nat.add_assoc]
                        · rw [hx]
                          refine rowN_s _ _ _ _ _ rfl (fun a b => ?_)
                          simp only [gi_si, gi_rowN, fCh]
                          by_cases hbb : b = 64 * nc + k
                          · subst hbb
                            simp
                            by_cases h58 : a = 58 <;> by_cases h56 : a = 56 <;> by_cases h55 : a = 55 <;> by_cases h54 : a = 54 <;> simp_all
                          · simp [hbb]
                    · rw [hc, show (4 : Int32) = nI 4 from rfl, nI_eq (by omega) (by omega)] at c
                      exact k105 0 (by rw [← hcnd, c]; simp)
          · rw [bi_0] at c
            exact k52 () (by rw [← hcnd, c]; simp)
end M4
