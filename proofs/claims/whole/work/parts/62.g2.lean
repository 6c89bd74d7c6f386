-- the class: a line of form 2, and what a line brings
section G2
variable {x : JX} {h : JH} {n : Nat}
theorem j_sline {a e : Nat} (hK : Kin h) (hX : XR h) (hn : gi h 1 1 = nI n) (hn4 : n ≤ 400) (he : e ≤ n) (hae : a < e) : JM x yX2_isSLine cX2_isSLine 5 (some .boolean) 3 0 0 [.ref 5, .int (nI a), .int (nI e)] h (fun v g => v = some (.int (bi (ok2 (gi h 2) a e))) ∧ LnX h g ∧ (ok2 (gi h 2) a e = true → gi g 5 5 = nI (if gi h 2 (a + 1) = 49 then 0 else if gi h 2 (a + 1) = 48 then 1 else 2) ∧ gi g 5 6 = nI (256 * pv (gi h 2) (a + 4) + pv (gi h 2) (a + 6)) ∧ gi g 5 7 = nI (a + 8) ∧ gi g 5 8 = nI (pv (gi h 2) (a + 2) - 3))) := by
  refine JM_of [some (.ref 5), some (.int (nI a)), some (.int (nI e)), none, none] (by decide) (Nat.le_of_ble_eq_true rfl) rfl ?_
  have h0 : tat (gi h 2) n a = gi h 2 a := by unfold tat; rw [if_pos (by omega)]
  have hno : ∀ g, LnX h g → ok2 (gi h 2) a e = false → (some (Value.int 0) = some (.int (bi (ok2 (gi h 2) a e))) ∧ LnX h g ∧ (ok2 (gi h 2) a e = true → gi g 5 5 = nI (if gi h 2 (a + 1) = 49 then 0 else if gi h 2 (a + 1) = 48 then 1 else 2) ∧ gi g 5 6 = nI (256 * pv (gi h 2) (a + 4) + pv (gi h 2) (a + 6)) ∧ gi g 5 7 = nI (a + 8) ∧ gi g 5 8 = nI (pv (gi h 2) (a + 2) - 3))) := fun g hg hf => by
    rw [hf]; exact ⟨rfl, hg, fun q => by cases q⟩
  have hrf : LnX h h := ⟨rfl, fun _ _ _ => rfl⟩
  have hiff := ok2_iff (t := gi h 2) hae
  refine J_aload_n (pq := 1) dX2_isSLine_0 rfl rfl (J_getA (pq := 4) dX2_isSLine_1 rfl f_X2_15 (by decide +kernel) (by first | exact hc0 | exact hd0 | exact hK.at rfl) (hX _ _ _ rfl) (J_iload_n (pq := 5) dX2_isSLine_4 rfl rfl (J_virtF (pq := 8) dX2_isSLine_5 rfl (j_at hK hX hn hn4 (by omega)) rfl tg_X6_at l_X2_65 vi_X6_at (by first | exact hc0 | exact hd0 | exact hK.at rfl) ⟨by decide, rfl⟩ (Nat.le_of_ble_eq_true rfl) (Nat.zero_le _) (Nat.zero_le _) (Nat.le_of_ble_eq_true rfl) (J_bipush (pq := 10) dX2_isSLine_8 rfl c_bipush_83 (J_icmp_ne (pq := 13) (tgt := 32) dX2_isSLine_10 rfl rfl (fun c => ?_) (fun c => ?_))))))
  · rw [h0] at c
    refine J_iconst (pq := 33) dX2_isSLine_32 rfl c_iconst_0 (J_iret dX2_isSLine_33 rfl (by first | rfl | exact bi_nar _) ?_)
    exact hno h hrf (Bool.eq_false_iff.mpr (fun q => c (hiff.mp q).1))
  rw [h0] at c
  have c58 := c
  refine J_iload_n (pq := 14) dX2_isSLine_13 rfl rfl (J_iload_n (pq := 15) dX2_isSLine_14 rfl rfl (J_isub (pq := 16) dX2_isSLine_15 rfl (?_)))
  rw [pk_sub (by omega)]
  refine J_bipush (pq := 18) dX2_isSLine_16 rfl c_bipush_10 (J_icmp_lt (pq := 21) (tgt := 32) dX2_isSLine_18 rfl rfl (fun c => ?_) (fun c => ?_))
  · rw [show (10 : Int32) = nI 10 from rfl, nI_ltI (by omega) (by omega)] at c
    refine J_iconst (pq := 33) dX2_isSLine_32 rfl c_iconst_0 (J_iret dX2_isSLine_33 rfl (by first | rfl | exact bi_nar _) ?_)
    exact hno h hrf (Bool.eq_false_iff.mpr (fun q => by have := (hiff.mp q).2.1; omega))
  rw [show (10 : Int32) = nI 10 from rfl, nI_ltI (by omega) (by omega)] at c
  have c11 := c
  refine J_aload_n (pq := 22) dX2_isSLine_21 rfl rfl (J_iload_n (pq := 23) dX2_isSLine_22 rfl rfl (J_iconst (pq := 24) dX2_isSLine_23 rfl c_iconst_2 (J_iadd (pq := 25) dX2_isSLine_24 rfl (?_))))
  rw [show (2 : Int32) = nI 2 from rfl, nI_add]
  refine J_iload_n (pq := 26) dX2_isSLine_25 rfl rfl (J_virtF (pq := 29) dX2_isSLine_26 rfl (j_digits hK hX hn hn4 he (by omega)) rfl tg_X2_areDigits l_X2_111 vi_X2_areDigits (by first | exact hc0 | exact hd0 | exact hK.at rfl) ⟨by decide, rfl⟩ (Nat.le_of_ble_eq_true rfl) (Nat.zero_le _) (Nat.zero_le _) (Nat.le_of_ble_eq_true rfl) (J_if_ne (pq := 32) (tgt := 34) dX2_isSLine_29 rfl rfl (fun c => ?_) (fun c => ?_)))
  rotate_left
  · rw [bi_0] at c
    refine J_iconst (pq := 33) dX2_isSLine_32 rfl c_iconst_0 (J_iret dX2_isSLine_33 rfl (by first | rfl | exact bi_nar _) ?_)
    exact hno h hrf (Bool.eq_false_iff.mpr (fun q => by rw [(hiff.mp q).2.2.1] at c; cases c))
  rw [bi_0, Bool.not_eq_false] at c
  have cal := c
  have hal := alld_t.mp cal
  have h1t : tat (gi h 2) n (a + 1) = gi h 2 (a + 1) := by unfold tat; rw [if_pos (by omega)]
  have pr : ∀ k, a + 2 ≤ k → k + 1 < e → JF x yX6_pairAt cX6_pairAt 2 (some .int) 2 0 0 [.ref 1, .int (nI k)] h (some (.int (nI (pv (gi h 2) k)))) h := fun k h1 h2 => j_pair hK hX hn hn4 (by omega) (hal _ (by omega) (by omega)) (hal _ (by omega) (by omega))
  have pl : ∀ k, a + 2 ≤ k → k + 1 < e → pv (gi h 2) k < 256 := fun k h1 h2 => pv_lt (hal _ (by omega) (by omega)) (hal _ (by omega) (by omega))
  have p1 := pl (a + 2) (by omega) (by omega)
  have p3 := pl (a + 4) (by omega) (by omega)
  have p5 := pl (a + 6) (by omega) (by omega)
  generalize hty : gi h 2 (a + 1) = ty at *
  refine J_aload_n (pq := 35) dX2_isSLine_34 rfl rfl (J_getA (pq := 38) dX2_isSLine_35 rfl f_X2_15 (by decide +kernel) (by first | exact hc0 | exact hd0 | exact hK.at rfl) (hX _ _ _ rfl) (J_iload_n (pq := 39) dX2_isSLine_38 rfl rfl (J_iconst (pq := 40) dX2_isSLine_39 rfl c_iconst_1 (J_iadd (pq := 41) dX2_isSLine_40 rfl (?_)))))
  rw [nI_1]
  refine J_virtF (pq := 44) dX2_isSLine_41 rfl (j_at hK hX hn hn4 (by omega)) rfl tg_X6_at l_X2_65 vi_X6_at (by first | exact hc0 | exact hd0 | exact hK.at rfl) ⟨by decide, rfl⟩ (Nat.le_of_ble_eq_true rfl) (Nat.zero_le _) (Nat.zero_le _) (Nat.le_of_ble_eq_true rfl) (?_)
  rw [h1t]
  refine J_istore_m 3 (pq := 45) dX2_isSLine_44 rfl rfl (Nat.le_of_ble_eq_true rfl) (Nat.le_of_ble_eq_true rfl) rfl (J_aload_n (pq := 46) dX2_isSLine_45 rfl rfl (J_getA (pq := 49) dX2_isSLine_46 rfl f_X2_15 (by decide +kernel) (by first | exact hc0 | exact hd0 | exact hK.at rfl) (hX _ _ _ rfl) (J_iload_n (pq := 50) dX2_isSLine_49 rfl rfl (J_iconst (pq := 51) dX2_isSLine_50 rfl c_iconst_2 (J_iadd (pq := 52) dX2_isSLine_51 rfl (?_))))))
  rw [show (2 : Int32) = nI 2 from rfl, nI_add]
  refine J_virtF (pq := 55) dX2_isSLine_52 rfl (pr (a + 2) (by omega) (by omega)) rfl tg_X6_pairAt l_X2_108 vi_X6_pairAt (by first | exact hc0 | exact hd0 | exact hK.at rfl) ⟨by decide, rfl⟩ (Nat.le_of_ble_eq_true rfl) (Nat.zero_le _) (Nat.zero_le _) (Nat.le_of_ble_eq_true rfl) (J_istore (pq := 57) dX2_isSLine_55 rfl (Nat.le_of_ble_eq_true rfl) (Nat.le_of_ble_eq_true rfl) rfl (J_aload_n (pq := 58) dX2_isSLine_57 rfl rfl (J_aload_n (pq := 59) dX2_isSLine_58 rfl rfl (J_getA (pq := 62) dX2_isSLine_59 rfl f_X2_15 (by decide +kernel) (by first | exact hc0 | exact hd0 | exact hK.at rfl) (hX _ _ _ rfl) (J_iload_n (pq := 63) dX2_isSLine_62 rfl rfl (J_iconst (pq := 64) dX2_isSLine_63 rfl c_iconst_4 (J_iadd (pq := 65) dX2_isSLine_64 rfl (?_))))))))
  rw [show (4 : Int32) = nI 4 from rfl, nI_add]
  refine J_virtF (pq := 68) dX2_isSLine_65 rfl (pr (a + 4) (by omega) (by omega)) rfl tg_X6_pairAt l_X2_108 vi_X6_pairAt (by first | exact hc0 | exact hd0 | exact hK.at rfl) ⟨by decide, rfl⟩ (Nat.le_of_ble_eq_true rfl) (Nat.zero_le _) (Nat.zero_le _) (Nat.le_of_ble_eq_true rfl) (J_sipush (pq := 71) dX2_isSLine_68 rfl c_sipush_256 (J_imul (pq := 72) dX2_isSLine_71 rfl (J_aload_n (pq := 73) dX2_isSLine_72 rfl rfl (J_getA (pq := 76) dX2_isSLine_73 rfl f_X2_15 (by decide +kernel) (by first | exact hc0 | exact hd0 | exact hK.at rfl) (hX _ _ _ rfl) (J_iload_n (pq := 77) dX2_isSLine_76 rfl rfl (J_bipush (pq := 79) dX2_isSLine_77 rfl c_bipush_6 (J_iadd (pq := 80) dX2_isSLine_79 rfl (?_))))))))
  rw [show (6 : Int32) = nI 6 from rfl, nI_add, show (256 : Int32) = nI 256 from rfl, pk_mul]
  refine J_virtF (pq := 83) dX2_isSLine_80 rfl (pr (a + 6) (by omega) (by omega)) rfl tg_X6_pairAt l_X2_108 vi_X6_pairAt (by first | exact hc0 | exact hd0 | exact hK.at rfl) ⟨by decide, rfl⟩ (Nat.le_of_ble_eq_true rfl) (Nat.zero_le _) (Nat.zero_le _) (Nat.le_of_ble_eq_true rfl) (J_iadd (pq := 84) dX2_isSLine_83 rfl (?_))
  rw [nI_add]
  refine J_putI (pq := 87) dX2_isSLine_84 rfl f_X2_102 (Or.inl rfl) (by first | exact hc0 | exact hd0 | exact hK.at rfl) (J_aload_n (pq := 88) dX2_isSLine_87 rfl rfl (J_iload_n (pq := 89) dX2_isSLine_88 rfl rfl (J_bipush (pq := 91) dX2_isSLine_89 rfl c_bipush_8 (J_iadd (pq := 92) dX2_isSLine_91 rfl (?_)))))
  rw [show (8 : Int32) = nI 8 from rfl, nI_add]
  refine J_putI (pq := 95) dX2_isSLine_92 rfl f_X2_105 (Or.inl rfl) (by first | exact hc0 | exact hd0 | exact hK.at rfl) (J_aload_n (pq := 96) dX2_isSLine_95 rfl rfl (J_iload (pq := 98) dX2_isSLine_96 rfl rfl (J_iconst (pq := 99) dX2_isSLine_98 rfl c_iconst_3 (J_isub (pq := 100) dX2_isSLine_99 rfl (J_putI (pq := 103) dX2_isSLine_100 rfl f_X2_99 (Or.inl rfl) (by first | exact hc0 | exact hd0 | exact hK.at rfl) (?_))))))
  generalize hG : si (si (si h 5 6 (nI (pv (gi h 2) (a + 4) * 256 + pv (gi h 2) (a + 6)))) 5 7 (nI (a + 8))) 5 8 (nI (pv (gi h 2) (a + 2)) - 3) = G
  have hGl : LnX h G := by rw [← hG]; exact LnX.si h 8 _ (by omega) (LnX.si h 7 _ (by omega) (LnX.si h 6 _ (by omega) hrf))
  have g6 : gi G 5 6 = nI (256 * pv (gi h 2) (a + 4) + pv (gi h 2) (a + 6)) := by rw [← hG, Nat.mul_comm 256]; simp [gi_si]
  have g7 : gi G 5 7 = nI (a + 8) := by rw [← hG]; simp [gi_si]
  have g8 : gi G 5 8 = nI (pv (gi h 2) (a + 2)) - 3 := by rw [← hG]; simp [gi_si]
  have hKG : Kin G := hK.of2 hGl.1
  refine J_cut (σ := Unit) 128 (fun _ => [some (.ref 5), some (.int (nI a)), some (.int (nI e)), some (.int ty), some (.int (nI (pv (gi h 2) (a + 2))))]) (fun _ => []) (fun _ => si G 5 5 (nI (if ty = 49 then 0 else if ty = 48 then 1 else 2))) (fun _ => True) (fun _ _ => ?_) (fun k128 => ?_)
  · have hLn : LnX h (si G 5 5 (nI (if ty = 49 then 0 else if ty = 48 then 1 else 2))) := LnX.si h 5 _ (by omega) hGl
    have hyes : ok2 (gi h 2) a e = true → (some (Value.int 1) = some (.int (bi (ok2 (gi h 2) a e))) ∧ LnX h (si G 5 5 (nI (if ty = 49 then 0 else if ty = 48 then 1 else 2))) ∧ (ok2 (gi h 2) a e = true → gi (si G 5 5 (nI (if ty = 49 then 0 else if ty = 48 then 1 else 2))) 5 5 = nI (if ty = 49 then 0 else if ty = 48 then 1 else 2) ∧ gi (si G 5 5 (nI (if ty = 49 then 0 else if ty = 48 then 1 else 2))) 5 6 = nI (256 * pv (gi h 2) (a + 4) + pv (gi h 2) (a + 6)) ∧ gi (si G 5 5 (nI (if ty = 49 then 0 else if ty = 48 then 1 else 2))) 5 7 = nI (a + 8) ∧ gi (si G 5 5 (nI (if ty = 49 then 0 else if ty = 48 then 1 else 2))) 5 8 = nI (pv (gi h 2) (a + 2) - 3))) := fun q => by
      have hq := hiff.mp q
      rw [q]
      refine ⟨rfl, hLn, fun _ => ⟨by rw [gi_si, if_pos ⟨rfl, rfl⟩], by rw [gi_si, if_neg (by omega)]; exact g6, by rw [gi_si, if_neg (by omega)]; exact g7, ?_⟩⟩
      rw [gi_si, if_neg (by omega), g8, show (3 : Int32) = nI 3 from rfl, pk_sub (by have := hq.2.2.2.1; omega)]
    refine J_iload_n (pq := 129) dX2_isSLine_128 rfl rfl (J_iload_n (pq := 130) dX2_isSLine_129 rfl rfl (J_isub (pq := 131) dX2_isSLine_130 rfl (J_iconst (pq := 132) dX2_isSLine_131 rfl c_iconst_4 (J_iconst (pq := 133) dX2_isSLine_132 rfl c_iconst_2 (J_iload (pq := 135) dX2_isSLine_133 rfl rfl (J_imul (pq := 136) dX2_isSLine_135 rfl (J_iadd (pq := 137) dX2_isSLine_136 rfl (?_))))))))
    rw [pk_sub (by omega), show (2 : Int32) = nI 2 from rfl, pk_mul, show (4 : Int32) = nI 4 from rfl, nI_add]
    refine J_icmp_ne (pq := 140) (tgt := 168) dX2_isSLine_137 rfl rfl (fun c => ?_) (fun c => ?_)
    · rw [nI_eq (by omega) (by omega)] at c
      refine J_iconst (pq := 169) dX2_isSLine_168 rfl c_iconst_0 (J_iret dX2_isSLine_169 rfl (by first | rfl | exact bi_nar _) ?_)
      exact hno _ hLn (Bool.eq_false_iff.mpr (fun q => c (hiff.mp q).2.2.2.1))
    rw [nI_eq (by omega) (by omega)] at c
    have cln := c
    refine J_iload_n (pq := 141) dX2_isSLine_140 rfl rfl (J_bipush (pq := 143) dX2_isSLine_141 rfl c_bipush_48 (J_icmp_eq (pq := 146) (tgt := 164) dX2_isSLine_143 rfl rfl (fun c => ?_) (fun c => ?_)))
    · refine J_iconst (pq := 165) dX2_isSLine_164 rfl c_iconst_1 (J_goto (tgt := 169) dX2_isSLine_165 rfl (J_iret dX2_isSLine_169 rfl (by first | rfl | exact bi_nar _) ?_))
      exact hyes (hiff.mpr ⟨c58, by omega, cal, cln, Or.inl c⟩)
    have c48 := c
    refine J_iload_n (pq := 147) dX2_isSLine_146 rfl rfl (J_bipush (pq := 149) dX2_isSLine_147 rfl c_bipush_49 (J_icmp_eq (pq := 152) (tgt := 164) dX2_isSLine_149 rfl rfl (fun c => ?_) (fun c => ?_)))
    · refine J_iconst (pq := 165) dX2_isSLine_164 rfl c_iconst_1 (J_goto (tgt := 169) dX2_isSLine_165 rfl (J_iret dX2_isSLine_169 rfl (by first | rfl | exact bi_nar _) ?_))
      exact hyes (hiff.mpr ⟨c58, by omega, cal, cln, Or.inr (Or.inl c)⟩)
    have c49 := c
    refine J_iload_n (pq := 153) dX2_isSLine_152 rfl rfl (J_bipush (pq := 155) dX2_isSLine_153 rfl c_bipush_57 (J_icmp_ne (pq := 158) (tgt := 168) dX2_isSLine_155 rfl rfl (fun c => ?_) (fun c => ?_)))
    · refine J_iconst (pq := 169) dX2_isSLine_168 rfl c_iconst_0 (J_iret dX2_isSLine_169 rfl (by first | rfl | exact bi_nar _) ?_)
      exact hno _ hLn (Bool.eq_false_iff.mpr (fun q => by
        have := (hiff.mp q).2.2.2.2
        rcases this with z | z | z
        · exact c48 z
        · exact c49 z
        · exact c z.1))
    have c57 := c
    refine J_iload (pq := 160) dX2_isSLine_158 rfl rfl (J_iconst (pq := 161) dX2_isSLine_160 rfl c_iconst_3 (J_icmp_ne (pq := 164) (tgt := 168) dX2_isSLine_161 rfl rfl (fun c => ?_) (fun c => ?_)))
    · rw [show (3 : Int32) = nI 3 from rfl, nI_eq (by omega) (by omega)] at c
      refine J_iconst (pq := 169) dX2_isSLine_168 rfl c_iconst_0 (J_iret dX2_isSLine_169 rfl (by first | rfl | exact bi_nar _) ?_)
      exact hno _ hLn (Bool.eq_false_iff.mpr (fun q => by
        have := (hiff.mp q).2.2.2.2
        rcases this with z | z | z
        · exact c48 z
        · exact c49 z
        · exact c z.2))
    rw [show (3 : Int32) = nI 3 from rfl, nI_eq (by omega) (by omega)] at c
    refine J_iconst (pq := 165) dX2_isSLine_164 rfl c_iconst_1 (J_goto (tgt := 169) dX2_isSLine_165 rfl (J_iret dX2_isSLine_169 rfl (by first | rfl | exact bi_nar _) ?_))
    exact hyes (hiff.mpr ⟨c58, by omega, cal, cln, Or.inr (Or.inr ⟨c57, c⟩)⟩)
  · refine J_aload_n (pq := 104) dX2_isSLine_103 rfl rfl (J_iload_n (pq := 105) dX2_isSLine_104 rfl rfl (J_bipush (pq := 107) dX2_isSLine_105 rfl c_bipush_49 (J_icmp_ne (pq := 110) (tgt := 114) dX2_isSLine_107 rfl rfl (fun c => ?_) (fun c => ?_))))
    · have c49 := c
      refine J_iload_n (pq := 115) dX2_isSLine_114 rfl rfl (J_bipush (pq := 117) dX2_isSLine_115 rfl c_bipush_48 (J_icmp_ne (pq := 120) (tgt := 124) dX2_isSLine_117 rfl rfl (fun c => ?_) (fun c => ?_)))
      · refine J_iconst (pq := 125) dX2_isSLine_124 rfl c_iconst_2 (J_putI (pq := 128) dX2_isSLine_125 rfl f_X2_93 (Or.inl rfl) (hKG.at rfl) (?_))
        refine J_eq rfl rfl ?_ (k128 () trivial)
        rw [if_neg c49, if_neg c]; rfl
      · refine J_iconst (pq := 121) dX2_isSLine_120 rfl c_iconst_1 (J_goto (tgt := 125) dX2_isSLine_121 rfl (J_putI (pq := 128) dX2_isSLine_125 rfl f_X2_93 (Or.inl rfl) (hKG.at rfl) (?_)))
        refine J_eq rfl rfl ?_ (k128 () trivial)
        rw [if_neg c49, if_pos c]; rfl
    · refine J_iconst (pq := 111) dX2_isSLine_110 rfl c_iconst_0 (J_goto (tgt := 125) dX2_isSLine_111 rfl (J_putI (pq := 128) dX2_isSLine_125 rfl f_X2_93 (Or.inl rfl) (hKG.at rfl) (?_)))
      refine J_eq rfl rfl ?_ (k128 () trivial)
      rw [if_pos c]; rfl
/-- a byte is staged -/
def stg (h : JH) (ad : Nat) (v : Int32) : JH := si (si h 6 ad v) 5 3 (gi h 5 3 + 1)
theorem j_stage {ad : Nat} {v : Int32} (hK : Kin h) (hX : XR h) (ha : ad < 256) : JF x yX2_stage cX2_stage 3 none 0 0 0 [.ref 5, .int (nI ad), .int v] h none (stg h ad v) := by
  refine JM_of [some (.ref 5), some (.int (nI ad)), some (.int v)] (by decide) (Nat.le_of_ble_eq_true rfl) rfl ?_
  have hb : vp_in (nI ad) 256 := vp_in_nI ha (by omega)
  refine J_iload_n (pq := 1) dX2_stage_0 rfl rfl (J_if_lt (pq := 4) (tgt := 28) dX2_stage_1 rfl rfl (fun c => ?_) (fun c => ?_))
  · rw [show (0 : Int32) = nI 0 from rfl, nI_ltI (by omega) (by omega)] at c; omega
  refine J_iload_n (pq := 5) dX2_stage_4 rfl rfl (J_sipush (pq := 8) dX2_stage_5 rfl c_sipush_256 (J_icmp_ge (pq := 11) (tgt := 28) dX2_stage_8 rfl rfl (fun c => ?_) (fun c => ?_)))
  · rw [show (256 : Int32) = nI 256 from rfl, nI_leI (by omega) (by omega)] at c; omega
  refine J_aload_n (pq := 12) dX2_stage_11 rfl rfl (J_getA (pq := 15) dX2_stage_12 rfl f_X2_9 (by decide +kernel) (by first | exact hc0 | exact hd0 | exact hK.at rfl) (hX _ _ _ rfl) (J_iload_n (pq := 16) dX2_stage_15 rfl rfl (J_iload_n (pq := 17) dX2_stage_16 rfl rfl (J_iast (pq := 18) dX2_stage_17 rfl (by first | exact hc0 | exact hd0 | exact hK.at rfl) (by assumption) (J_aload_n (pq := 19) dX2_stage_18 rfl rfl (J_dup (pq := 20) dX2_stage_19 rfl rfl (J_getI (pq := 23) dX2_stage_20 rfl f_X2_40 jsI (by first | exact hc0 | exact hd0 | exact hK.at rfl) (J_iconst (pq := 24) dX2_stage_23 rfl c_iconst_1 (J_iadd (pq := 25) dX2_stage_24 rfl (J_putI (pq := 28) dX2_stage_25 rfl f_X2_40 (Or.inl rfl) (by first | exact hc0 | exact hd0 | exact hK.at rfl) (J_vret dX2_stage_28 rfl ?_)))))))))))
  refine ⟨rfl, ?_⟩
  unfold stg
  rw [ixn (by omega)]
  rfl
/-- k bytes of data from the pair at D on come to A and behind -/
def stN (h : JH) (t : Nat → Int32) (A D : Nat) : Nat → JH
  | 0 => h
  | k + 1 => stg (stN h t A D k) (A + k) (nI (pv t (D + 2 * k)))
/-- what reading changes in the class -/
def RdX (h g : JH) : Prop := g.2 = h.2 ∧ ∀ a b, a ≠ 6 → ¬ (a = 4 ∧ b ≤ 1) → ¬ (a = 5 ∧ 3 ≤ b ∧ b ≤ 8) → gi g a b = gi h a b
theorem RdX.rf (h : JH) : RdX h h := ⟨rfl, fun _ _ _ _ _ => rfl⟩
theorem RdX.tr {g k : JH} (h1 : RdX h g) (h2 : RdX g k) : RdX h k := ⟨h2.1.trans h1.1, fun a b q1 q2 q3 => (h2.2 a b q1 q2 q3).trans (h1.2 a b q1 q2 q3)⟩
theorem LnX.rd {g : JH} (h1 : LnX h g) : RdX h g := ⟨h1.1, fun a b _ _ q3 => h1.2 a b (by omega)⟩
theorem stg_i (h : JH) (ad : Nat) (v : Int32) (a b : Nat) : gi (stg h ad v) a b = if a = 5 ∧ b = 3 then gi h 5 3 + 1 else if a = 6 ∧ b = ad then v else gi h a b := by unfold stg; rw [gi_si, gi_si]
theorem stN_2 (t : Nat → Int32) (A D : Nat) : ∀ k, (stN h t A D k).2 = h.2
  | 0 => rfl
  | k + 1 => stN_2 t A D k
theorem stN_o (t : Nat → Int32) (A D : Nat) {a b : Nat} (h1 : a ≠ 6) (h2 : ¬ (a = 5 ∧ b = 3)) : ∀ k, gi (stN h t A D k) a b = gi h a b
  | 0 => rfl
  | k + 1 => by rw [stN, stg_i, if_neg h2, if_neg (fun q => h1 q.1)]; exact stN_o t A D h1 h2 k
theorem stN_3 (t : Nat → Int32) (A D : Nat) : ∀ k, gi (stN h t A D k) 5 3 = gi h 5 3 + nI k
  | 0 => by rw [show nI 0 = 0 from rfl]; simp [stN]
  | k + 1 => by rw [stN, stg_i, if_pos ⟨rfl, rfl⟩, stN_3 t A D k, ← nI_1 k, Int32.add_assoc]
theorem stN_6 (t : Nat → Int32) (A D : Nat) (j : Nat) : ∀ k, gi (stN h t A D k) 6 j = if A ≤ j ∧ j < A + k then nI (pv t (D + 2 * (j - A))) else gi h 6 j
  | 0 => by rw [if_neg (by omega)]; rfl
  | k + 1 => by
    rw [stN, stg_i, if_neg (by omega), stN_6 t A D j k]
    by_cases hj : j = A + k
    · rw [if_pos ⟨rfl, hj⟩, if_pos (by omega), show j - A = k by omega]
    · rw [if_neg (fun q => hj q.2)]
      by_cases hc : A ≤ j ∧ j < A + k
      · rw [if_pos hc, if_pos (by omega)]
      · rw [if_neg hc, if_neg (by omega)]
theorem stN_r (t : Nat → Int32) (A D k : Nat) : RdX h (stN h t A D k) := ⟨stN_2 t A D k, fun a b q1 q2 q3 => stN_o t A D q1 (by omega) k⟩
theorem j_mark {f p : Int32} (hK : Kin h) : JF x yX1_mark cX1_mark 3 none 0 0 0 [.ref 4, .int f, .int p] h none (si (si h 4 0 f) 4 1 p) := by
  refine JM_of [some (.ref 4), some (.int f), some (.int p)] (by decide) (Nat.le_of_ble_eq_true rfl) rfl ?_
  refine J_aload_n (pq := 1) dX1_mark_0 rfl rfl (J_iload_n (pq := 2) dX1_mark_1 rfl rfl (J_putI (pq := 5) dX1_mark_2 rfl f_X1_9 (Or.inl rfl) (hK.at rfl) (J_aload_n (pq := 6) dX1_mark_5 rfl rfl (J_iload_n (pq := 7) dX1_mark_6 rfl rfl (J_putI (pq := 10) dX1_mark_7 rfl f_X1_15 (Or.inl rfl) (hK.at rfl) (J_vret dX1_mark_10 rfl ?_))))))
  exact ⟨rfl, rfl⟩
theorem j_start4 (hK : Kin h) : JF x yX1_start cX1_start 1 none 0 0 0 [.ref 4] h none (si (si h 4 0 0) 4 1 (-1)) := by
  refine JM_of [some (.ref 4)] (by decide) (Nat.le_of_ble_eq_true rfl) rfl ?_
  refine J_aload_n (pq := 1) dX1_start_0 rfl rfl (J_iconst (pq := 2) dX1_start_1 rfl c_iconst_0 (J_putI (pq := 5) dX1_start_2 rfl f_X1_9 (Or.inl rfl) (hK.at rfl) (J_aload_n (pq := 6) dX1_start_5 rfl rfl (J_iconst (pq := 7) dX1_start_6 rfl c_iconst_m1 (J_putI (pq := 10) dX1_start_7 rfl f_X1_15 (Or.inl rfl) (hK.at rfl) (J_vret dX1_start_10 rfl ?_))))))
  exact ⟨rfl, rfl⟩
theorem j_isFault (hK : Kin h) : JF x yX1_isFault cX1_isFault 1 (some .boolean) 0 0 0 [.ref 4] h (some (.int (bi (decide (0 < gi h 4 0))))) h := by
  refine JM_of [some (.ref 4)] (by decide) (Nat.le_of_ble_eq_true rfl) rfl ?_
  refine J_aload_n (pq := 1) dX1_isFault_0 rfl rfl (J_getI (pq := 4) dX1_isFault_1 rfl f_X1_9 jsI (hK.at rfl) (J_if_le (pq := 7) (tgt := 11) dX1_isFault_4 rfl rfl (fun c => ?_) (fun c => ?_)))
  · refine J_iconst (pq := 12) dX1_isFault_11 rfl c_iconst_0 (J_iret dX1_isFault_12 rfl (by first | rfl | exact bi_nar _) ?_)
    exact ⟨by rw [decide_eq_false (i_nlt.mpr c)]; rfl, rfl⟩
  · refine J_iconst (pq := 8) dX1_isFault_7 rfl c_iconst_1 (J_goto (tgt := 12) dX1_isFault_8 rfl (J_iret dX1_isFault_12 rfl (by first | rfl | exact bi_nar _) ?_))
    exact ⟨by rw [decide_eq_true (i_nle.mp c)]; rfl, rfl⟩
theorem mark_r (h : JH) (f p : Int32) : RdX h (si (si h 4 0 f) 4 1 p) := ⟨rfl, fun a b q1 q2 q3 => by rw [gi_si, if_neg (by omega), gi_si, if_neg (by omega)]⟩
theorem j_takeData {p A D N : Nat} {t : Nat → Int32} (hK : Kin h) (hX : XR h) (hn : gi h 1 1 = nI n) (hn4 : n ≤ 400) (ht : gi h 2 = t) (h6 : gi h 5 6 = nI A) (h7 : gi h 5 7 = nI D) (h8 : gi h 5 8 = nI N) (hA : A < 100000) (hN : N ≤ 256) (hD : D + 2 * N ≤ n) (hd : ∀ j, D ≤ j → j < D + 2 * N → isdig (t j) = true) : JF x yX2_takeData cX2_takeData 3 none 3 0 0 [.ref 5, .int (nI p)] h none (if 0 < N ∧ 256 < A + N then si (si h 4 0 3) 4 1 (nI p) else stN h t A D N) := by
  refine JM_of [some (.ref 5), some (.int (nI p)), none] (by decide) (Nat.le_of_ble_eq_true rfl) rfl ?_
  have loop : ¬ (0 < N ∧ 256 < A + N) → J x yX2_takeData cX2_takeData 3 none 3 0 0 (fun v g => v = none ∧ g = if 0 < N ∧ 256 < A + N then si (si h 4 0 3) 4 1 (nI p) else stN h t A D N) 32 [some (.ref 5), some (.int (nI p)), none] [] h := fun hc => by
    rw [if_neg hc]
    refine J_iconst (pq := 33) dX2_takeData_32 rfl c_iconst_0 (J_istore_m 2 (pq := 34) dX2_takeData_33 rfl rfl (Nat.le_of_ble_eq_true rfl) (Nat.le_of_ble_eq_true rfl) rfl (?_))
    refine J_loop (σ := Nat) (fun k => [some (.ref 5), some (.int (nI p)), some (.int (nI k))]) (fun _ => []) (fun k => stN h t A D k) (fun k => k ≤ N) (fun k => N - k) 0 rfl rfl rfl (Nat.zero_le _) (fun k hk ih => ?_)
    have e2 := stN_2 (h := h) t A D k
    have hK' : Kin (stN h t A D k) := hK.of2 e2
    have hX' : XR (stN h t A D k) := hX.of3 (by rw [e2])
    have g8 : gi (stN h t A D k) 5 8 = nI N := by rw [stN_o t A D (by omega) (by omega)]; exact h8
    have g6 : gi (stN h t A D k) 5 6 = nI A := by rw [stN_o t A D (by omega) (by omega)]; exact h6
    have g7 : gi (stN h t A D k) 5 7 = nI D := by rw [stN_o t A D (by omega) (by omega)]; exact h7
    have gn : gi (stN h t A D k) 1 1 = nI n := by rw [stN_o t A D (by omega) (by omega)]; exact hn
    have gt : gi (stN h t A D k) 2 = t := by funext j; rw [stN_o t A D (by omega) (by omega) k, ht]
    refine J_iload_n (pq := 35) dX2_takeData_34 rfl rfl (J_aload_n (pq := 36) dX2_takeData_35 rfl rfl (J_getI (pq := 39) dX2_takeData_36 rfl f_X2_99 jsI (hK'.at rfl) (J_icmp_ge (pq := 42) (tgt := 73) dX2_takeData_39 rfl rfl (fun c => ?_) (fun c => ?_))))
    · rw [g8, nI_leI (by omega) (by omega)] at c
      refine J_vret dX2_takeData_73 rfl ?_
      rw [show k = N by omega]
      exact ⟨rfl, rfl⟩
    · rw [g8, nI_leI (by omega) (by omega)] at c
      have hpr := j_pair (x := x) (k := D + 2 * k) hK' hX' gn hn4 (by omega) (by rw [gt]; exact hd _ (by omega) (by omega)) (by rw [gt]; exact hd _ (by omega) (by omega))
      rw [gt] at hpr
      refine J_aload_n (pq := 43) dX2_takeData_42 rfl rfl (J_aload_n (pq := 44) dX2_takeData_43 rfl rfl (J_getI (pq := 47) dX2_takeData_44 rfl f_X2_102 jsI (hK'.at rfl) (J_iload_n (pq := 48) dX2_takeData_47 rfl rfl (J_iadd (pq := 49) dX2_takeData_48 rfl (J_aload_n (pq := 50) dX2_takeData_49 rfl rfl (J_getA (pq := 53) dX2_takeData_50 rfl f_X2_15 (by decide +kernel) (hK'.at rfl) (hX' _ _ _ rfl) (J_aload_n (pq := 54) dX2_takeData_53 rfl rfl (J_getI (pq := 57) dX2_takeData_54 rfl f_X2_105 jsI (hK'.at rfl) (J_iconst (pq := 58) dX2_takeData_57 rfl c_iconst_2 (J_iload_n (pq := 59) dX2_takeData_58 rfl rfl (J_imul (pq := 60) dX2_takeData_59 rfl (J_iadd (pq := 61) dX2_takeData_60 rfl (?_)))))))))))))
      rw [g6, g7, nI_add, show (2 : Int32) = nI 2 from rfl, pk_mul, nI_add]
      refine J_virtF (pq := 64) dX2_takeData_61 rfl (hpr) rfl tg_X6_pairAt l_X2_108 vi_X6_pairAt (hK'.at rfl) ⟨by decide, rfl⟩ (Nat.le_of_ble_eq_true rfl) (Nat.zero_le _) (Nat.zero_le _) (Nat.le_of_ble_eq_true rfl) (J_virtF (pq := 67) dX2_takeData_64 rfl (j_stage hK' hX' (by omega)) rfl tg_X2_stage l_X2_69 vi_X2_stage (hK'.at rfl) ⟨by decide, rfl⟩ (Nat.le_of_ble_eq_true rfl) (Nat.zero_le _) (Nat.zero_le _) (Nat.le_of_ble_eq_true rfl) (J_iinc (pq := 70) dX2_takeData_67 rfl c_iconst_1 rfl (Nat.le_of_ble_eq_true rfl) rfl (J_goto (tgt := 34) dX2_takeData_70 rfl (?_))))
      rw [nI_1]
      exact ih (k + 1) (by omega) (by omega)
  refine J_aload_n (pq := 1) dX2_takeData_0 rfl rfl (J_getI (pq := 4) dX2_takeData_1 rfl f_X2_99 jsI (by first | exact hc0 | exact hd0 | exact hK.at rfl) (J_if_le (pq := 7) (tgt := 32) dX2_takeData_4 rfl rfl (fun c => ?_) (fun c => ?_)))
  · rw [h8, show (0 : Int32) = nI 0 from rfl, nI_leI (by omega) (by omega)] at c
    exact loop (by omega)
  rw [h8, show (0 : Int32) = nI 0 from rfl, nI_leI (by omega) (by omega)] at c
  have c0 := c
  refine J_aload_n (pq := 8) dX2_takeData_7 rfl rfl (J_getI (pq := 11) dX2_takeData_8 rfl f_X2_102 jsI (by first | exact hc0 | exact hd0 | exact hK.at rfl) (J_aload_n (pq := 12) dX2_takeData_11 rfl rfl (J_getI (pq := 15) dX2_takeData_12 rfl f_X2_99 jsI (by first | exact hc0 | exact hd0 | exact hK.at rfl) (J_iadd (pq := 16) dX2_takeData_15 rfl (J_sipush (pq := 19) dX2_takeData_16 rfl c_sipush_256 (J_icmp_le (pq := 22) (tgt := 32) dX2_takeData_19 rfl rfl (fun c => ?_) (fun c => ?_)))))))
  · rw [h6, h8, nI_add, show (256 : Int32) = nI 256 from rfl, nI_leI (by omega) (by omega)] at c
    exact loop (by omega)
  rw [h6, h8, nI_add, show (256 : Int32) = nI 256 from rfl, nI_leI (by omega) (by omega)] at c
  refine J_aload_n (pq := 23) dX2_takeData_22 rfl rfl (J_getA (pq := 26) dX2_takeData_23 rfl f_X2_19 (by decide +kernel) (by first | exact hc0 | exact hd0 | exact hK.at rfl) (hX _ _ _ rfl) (J_iconst (pq := 27) dX2_takeData_26 rfl c_iconst_3 (J_iload_n (pq := 28) dX2_takeData_27 rfl rfl (J_virtF (pq := 31) dX2_takeData_28 rfl (j_mark hK) rfl tg_X1_mark l_X2_61 vi_X1_mark (by first | exact hc0 | exact hd0 | exact hK.at rfl) ⟨by decide, rfl⟩ (Nat.le_of_ble_eq_true rfl) (Nat.zero_le _) (Nat.zero_le _) (Nat.le_of_ble_eq_true rfl) (J_vret dX2_takeData_31 rfl ?_)))))
  rw [if_pos (by omega)]
  exact ⟨rfl, rfl⟩
end G2
