-- the class: a chip's pulse, its erasing, what it tells
def xPulse (h : JH) (q a : Nat) (dd volts : Int32) : JH :=
  let h1 := si h q 16 (gi h q 16 + 1)
  if gi h q 3 ≤ volts then
    let n : Int32 := if gi h (q + 7) a = dd then gi h (q + 6) a + 1 else 1
    let h2 := si (si h1 (q + 6) a n) (q + 7) a dd
    let h3 := if gi h (q + 5) a ≤ n then si h2 (q + 3) a (gi h (q + 3) a &&& dd) else h2
    if gi h (q + 5) a + gi h q 6 ≤ n then si h3 (q + 4) a (gi h (q + 4) a &&& dd) else h3
  else h1
section A3
variable {x : JX} {h : JH} {q s : Nat}
theorem j_X0_takePulse {a : Nat} {dd w : Int32} (hC : CK h q s) (ha : a < 8 * s) : JF x yX0_takePulse cX0_takePulse 4 none 1 0 0 [.ref q, .int (nI a), .int dd, .int w] h none (xPulse h q a dd w) := by
  have hC0 := hC
  obtain ⟨⟨hc0, hc1, hc2, hc3, hc4, hc5, hc6, hc7⟩, ⟨hr8, hr9, hr10, hr11, hr12, hr13, hr14⟩, hz, hs1, hs2⟩ := hC
  refine JM_of [some (.ref q), some (.int (nI a)), some (.int dd), some (.int w)] (by decide) (Nat.le_of_ble_eq_true rfl) rfl ?_
  have hb : vp_in (nI a) (8 * s) := vp_in_nI ha (by omega)
  have hx : ix (nI a) = a := ixn (by omega)
  have hC1 : CK (si h q 16 (gi h q 16 + 1)) q s := hC0.of3 rfl (by simp [gi_si])
  refine J_aload_n (pq := 1) dX0_takePulse_0 rfl rfl (J_dup (pq := 2) dX0_takePulse_1 rfl rfl (J_getI (pq := 5) dX0_takePulse_2 rfl f_X0_90 jsI (by first | exact hc0 | exact hc1 | exact hc2 | exact hc3 | exact hc4 | exact hc5 | exact hc6 | exact hc7) (J_iconst (pq := 6) dX0_takePulse_5 rfl c_iconst_1 (J_iadd (pq := 7) dX0_takePulse_6 rfl (J_putI (pq := 10) dX0_takePulse_7 rfl f_X0_90 (Or.inl rfl) (by first | exact hc0 | exact hc1 | exact hc2 | exact hc3 | exact hc4 | exact hc5 | exact hc6 | exact hc7) (J_iload_n (pq := 11) dX0_takePulse_10 rfl rfl (J_aload_n (pq := 12) dX0_takePulse_11 rfl rfl (J_getI (pq := 15) dX0_takePulse_12 rfl f_X0_55 jsI (by first | exact hc0 | exact hc1 | exact hc2 | exact hc3 | exact hc4 | exact hc5 | exact hc6 | exact hc7) (J_icmp_lt (pq := 18) (tgt := 26) dX0_takePulse_15 rfl rfl (fun c => ?_) (fun c => ?_))))))))))
  · simp only [gi_si] at c
    simp at c
    refine J_vret dX0_takePulse_26 rfl ?_
    refine ⟨rfl, ?_⟩
    simp [xPulse, i_nle.mpr c]
  · simp only [gi_si] at c
    simp at c
    have c0 := c
    refine J_aload_n (pq := 19) dX0_takePulse_18 rfl rfl (J_iload_n (pq := 20) dX0_takePulse_19 rfl rfl (J_virtF (pq := 23) dX0_takePulse_20 rfl (j_X0_isAddress hC1) rfl tg_X0_isAddress l_X0_70 vi_X0_isAddress (by first | exact hc0 | exact hc1 | exact hc2 | exact hc3 | exact hc4 | exact hc5 | exact hc6 | exact hc7) ⟨by decide, rfl⟩ (Nat.le_of_ble_eq_true rfl) (Nat.zero_le _) (Nat.zero_le _) (Nat.le_of_ble_eq_true rfl) (J_if_ne (pq := 26) (tgt := 27) dX0_takePulse_23 rfl rfl (fun c => ?_) (fun c => ?_))))
    rotate_left
    · rw [isA hs2 ha] at c; exact absurd c (by decide)
    · refine J_aload_n (pq := 28) dX0_takePulse_27 rfl rfl (J_getA (pq := 31) dX0_takePulse_28 rfl f_X0_43 (by decide +kernel) (by first | exact hc0 | exact hc1 | exact hc2 | exact hc3 | exact hc4 | exact hc5 | exact hc6 | exact hc7) (by first | exact hr8 | exact hr9 | exact hr10 | exact hr11 | exact hr12 | exact hr13 | exact hr14) (J_iload_n (pq := 32) dX0_takePulse_31 rfl rfl (J_aload_n (pq := 33) dX0_takePulse_32 rfl rfl (J_getA (pq := 36) dX0_takePulse_33 rfl f_X0_46 (by decide +kernel) (by first | exact hc0 | exact hc1 | exact hc2 | exact hc3 | exact hc4 | exact hc5 | exact hc6 | exact hc7) (by first | exact hr8 | exact hr9 | exact hr10 | exact hr11 | exact hr12 | exact hr13 | exact hr14) (J_iload_n (pq := 37) dX0_takePulse_36 rfl rfl (J_iald (pq := 38) dX0_takePulse_37 rfl (by first | exact hc0 | exact hc1 | exact hc2 | exact hc3 | exact hc4 | exact hc5 | exact hc6 | exact hc7) (by assumption) (J_iload_n (pq := 39) dX0_takePulse_38 rfl rfl (J_icmp_ne (pq := 42) (tgt := 53) dX0_takePulse_39 rfl rfl (fun c => ?_) (fun c => ?_)))))))))
      · simp only [hx, gi_si] at c
        simp at c
        have c2 := c
        refine J_iconst (pq := 54) dX0_takePulse_53 rfl c_iconst_1 (J_iast (pq := 55) dX0_takePulse_54 rfl (by first | exact hc0 | exact hc1 | exact hc2 | exact hc3 | exact hc4 | exact hc5 | exact hc6 | exact hc7) (by assumption) (J_aload_n (pq := 56) dX0_takePulse_55 rfl rfl (J_getA (pq := 59) dX0_takePulse_56 rfl f_X0_46 (by decide +kernel) (by first | exact hc0 | exact hc1 | exact hc2 | exact hc3 | exact hc4 | exact hc5 | exact hc6 | exact hc7) (by first | exact hr8 | exact hr9 | exact hr10 | exact hr11 | exact hr12 | exact hr13 | exact hr14) (J_iload_n (pq := 60) dX0_takePulse_59 rfl rfl (J_iload_n (pq := 61) dX0_takePulse_60 rfl rfl (J_iast (pq := 62) dX0_takePulse_61 rfl (by first | exact hc0 | exact hc1 | exact hc2 | exact hc3 | exact hc4 | exact hc5 | exact hc6 | exact hc7) (by assumption) (J_aload_n (pq := 63) dX0_takePulse_62 rfl rfl (J_getA (pq := 66) dX0_takePulse_63 rfl f_X0_43 (by decide +kernel) (by first | exact hc0 | exact hc1 | exact hc2 | exact hc3 | exact hc4 | exact hc5 | exact hc6 | exact hc7) (by first | exact hr8 | exact hr9 | exact hr10 | exact hr11 | exact hr12 | exact hr13 | exact hr14) (J_iload_n (pq := 67) dX0_takePulse_66 rfl rfl (J_iald (pq := 68) dX0_takePulse_67 rfl (by first | exact hc0 | exact hc1 | exact hc2 | exact hc3 | exact hc4 | exact hc5 | exact hc6 | exact hc7) (by assumption) (J_aload_n (pq := 69) dX0_takePulse_68 rfl rfl (J_getA (pq := 72) dX0_takePulse_69 rfl f_X0_40 (by decide +kernel) (by first | exact hc0 | exact hc1 | exact hc2 | exact hc3 | exact hc4 | exact hc5 | exact hc6 | exact hc7) (by first | exact hr8 | exact hr9 | exact hr10 | exact hr11 | exact hr12 | exact hr13 | exact hr14) (J_iload_n (pq := 73) dX0_takePulse_72 rfl rfl (J_iald (pq := 74) dX0_takePulse_73 rfl (by first | exact hc0 | exact hc1 | exact hc2 | exact hc3 | exact hc4 | exact hc5 | exact hc6 | exact hc7) (by assumption) (J_icmp_lt (pq := 77) (tgt := 87) dX0_takePulse_74 rfl rfl (fun c => ?_) (fun c => ?_))))))))))))))))
        · simp only [hx, gi_si] at c
          simp at c
          have c3 := c
          refine J_aload_n (pq := 88) dX0_takePulse_87 rfl rfl (J_getA (pq := 91) dX0_takePulse_88 rfl f_X0_43 (by decide +kernel) (by first | exact hc0 | exact hc1 | exact hc2 | exact hc3 | exact hc4 | exact hc5 | exact hc6 | exact hc7) (by first | exact hr8 | exact hr9 | exact hr10 | exact hr11 | exact hr12 | exact hr13 | exact hr14) (J_iload_n (pq := 92) dX0_takePulse_91 rfl rfl (J_iald (pq := 93) dX0_takePulse_92 rfl (by first | exact hc0 | exact hc1 | exact hc2 | exact hc3 | exact hc4 | exact hc5 | exact hc6 | exact hc7) (by assumption) (J_aload_n (pq := 94) dX0_takePulse_93 rfl rfl (J_getA (pq := 97) dX0_takePulse_94 rfl f_X0_40 (by decide +kernel) (by first | exact hc0 | exact hc1 | exact hc2 | exact hc3 | exact hc4 | exact hc5 | exact hc6 | exact hc7) (by first | exact hr8 | exact hr9 | exact hr10 | exact hr11 | exact hr12 | exact hr13 | exact hr14) (J_iload_n (pq := 98) dX0_takePulse_97 rfl rfl (J_iald (pq := 99) dX0_takePulse_98 rfl (by first | exact hc0 | exact hc1 | exact hc2 | exact hc3 | exact hc4 | exact hc5 | exact hc6 | exact hc7) (by assumption) (J_aload_n (pq := 100) dX0_takePulse_99 rfl rfl (J_getI (pq := 103) dX0_takePulse_100 rfl f_X0_64 jsI (by first | exact hc0 | exact hc1 | exact hc2 | exact hc3 | exact hc4 | exact hc5 | exact hc6 | exact hc7) (J_iadd (pq := 104) dX0_takePulse_103 rfl (J_icmp_lt (pq := 107) (tgt := 117) dX0_takePulse_104 rfl rfl (fun c => ?_) (fun c => ?_))))))))))))
          · simp only [hx, gi_si] at c
            simp at c
            have c4 := c
            refine J_vret dX0_takePulse_117 rfl ?_
            refine ⟨rfl, ?_⟩
            simp [xPulse, hx, c0, c2, i_nle.mpr c3, i_nle.mpr c4]
          · simp only [hx, gi_si] at c
            simp at c
            have c4 := c
            refine J_aload_n (pq := 108) dX0_takePulse_107 rfl rfl (J_getA (pq := 111) dX0_takePulse_108 rfl f_X0_37 (by decide +kernel) (by first | exact hc0 | exact hc1 | exact hc2 | exact hc3 | exact hc4 | exact hc5 | exact hc6 | exact hc7) (by first | exact hr8 | exact hr9 | exact hr10 | exact hr11 | exact hr12 | exact hr13 | exact hr14) (J_iload_n (pq := 112) dX0_takePulse_111 rfl rfl (J_dup2 (pq := 113) dX0_takePulse_112 rfl rfl rfl (J_iald (pq := 114) dX0_takePulse_113 rfl (by first | exact hc0 | exact hc1 | exact hc2 | exact hc3 | exact hc4 | exact hc5 | exact hc6 | exact hc7) (by assumption) (J_iload_n (pq := 115) dX0_takePulse_114 rfl rfl (J_iand (pq := 116) dX0_takePulse_115 rfl (J_iast (pq := 117) dX0_takePulse_116 rfl (by first | exact hc0 | exact hc1 | exact hc2 | exact hc3 | exact hc4 | exact hc5 | exact hc6 | exact hc7) (by assumption) (J_vret dX0_takePulse_117 rfl ?_))))))))
            refine ⟨rfl, ?_⟩
            simp [xPulse, hx, c0, c2, i_nle.mpr c3, c4, gi_si]
        · simp only [hx, gi_si] at c
          simp at c
          have c3 := c
          refine J_aload_n (pq := 78) dX0_takePulse_77 rfl rfl (J_getA (pq := 81) dX0_takePulse_78 rfl f_X0_33 (by decide +kernel) (by first | exact hc0 | exact hc1 | exact hc2 | exact hc3 | exact hc4 | exact hc5 | exact hc6 | exact hc7) (by first | exact hr8 | exact hr9 | exact hr10 | exact hr11 | exact hr12 | exact hr13 | exact hr14) (J_iload_n (pq := 82) dX0_takePulse_81 rfl rfl (J_dup2 (pq := 83) dX0_takePulse_82 rfl rfl rfl (J_iald (pq := 84) dX0_takePulse_83 rfl (by first | exact hc0 | exact hc1 | exact hc2 | exact hc3 | exact hc4 | exact hc5 | exact hc6 | exact hc7) (by assumption) (J_iload_n (pq := 85) dX0_takePulse_84 rfl rfl (J_iand (pq := 86) dX0_takePulse_85 rfl (J_iast (pq := 87) dX0_takePulse_86 rfl (by first | exact hc0 | exact hc1 | exact hc2 | exact hc3 | exact hc4 | exact hc5 | exact hc6 | exact hc7) (by assumption) (J_aload_n (pq := 88) dX0_takePulse_87 rfl rfl (J_getA (pq := 91) dX0_takePulse_88 rfl f_X0_43 (by decide +kernel) (by first | exact hc0 | exact hc1 | exact hc2 | exact hc3 | exact hc4 | exact hc5 | exact hc6 | exact hc7) (by first | exact hr8 | exact hr9 | exact hr10 | exact hr11 | exact hr12 | exact hr13 | exact hr14) (J_iload_n (pq := 92) dX0_takePulse_91 rfl rfl (J_iald (pq := 93) dX0_takePulse_92 rfl (by first | exact hc0 | exact hc1 | exact hc2 | exact hc3 | exact hc4 | exact hc5 | exact hc6 | exact hc7) (by assumption) (J_aload_n (pq := 94) dX0_takePulse_93 rfl rfl (J_getA (pq := 97) dX0_takePulse_94 rfl f_X0_40 (by decide +kernel) (by first | exact hc0 | exact hc1 | exact hc2 | exact hc3 | exact hc4 | exact hc5 | exact hc6 | exact hc7) (by first | exact hr8 | exact hr9 | exact hr10 | exact hr11 | exact hr12 | exact hr13 | exact hr14) (J_iload_n (pq := 98) dX0_takePulse_97 rfl rfl (J_iald (pq := 99) dX0_takePulse_98 rfl (by first | exact hc0 | exact hc1 | exact hc2 | exact hc3 | exact hc4 | exact hc5 | exact hc6 | exact hc7) (by assumption) (J_aload_n (pq := 100) dX0_takePulse_99 rfl rfl (J_getI (pq := 103) dX0_takePulse_100 rfl f_X0_64 jsI (by first | exact hc0 | exact hc1 | exact hc2 | exact hc3 | exact hc4 | exact hc5 | exact hc6 | exact hc7) (J_iadd (pq := 104) dX0_takePulse_103 rfl (J_icmp_lt (pq := 107) (tgt := 117) dX0_takePulse_104 rfl rfl (fun c => ?_) (fun c => ?_))))))))))))))))))))
          · simp only [hx, gi_si] at c
            simp at c
            have c4 := c
            refine J_vret dX0_takePulse_117 rfl ?_
            refine ⟨rfl, ?_⟩
            simp [xPulse, hx, c0, c2, c3, i_nle.mpr c4, gi_si]
          · simp only [hx, gi_si] at c
            simp at c
            have c4 := c
            refine J_aload_n (pq := 108) dX0_takePulse_107 rfl rfl (J_getA (pq := 111) dX0_takePulse_108 rfl f_X0_37 (by decide +kernel) (by first | exact hc0 | exact hc1 | exact hc2 | exact hc3 | exact hc4 | exact hc5 | exact hc6 | exact hc7) (by first | exact hr8 | exact hr9 | exact hr10 | exact hr11 | exact hr12 | exact hr13 | exact hr14) (J_iload_n (pq := 112) dX0_takePulse_111 rfl rfl (J_dup2 (pq := 113) dX0_takePulse_112 rfl rfl rfl (J_iald (pq := 114) dX0_takePulse_113 rfl (by first | exact hc0 | exact hc1 | exact hc2 | exact hc3 | exact hc4 | exact hc5 | exact hc6 | exact hc7) (by assumption) (J_iload_n (pq := 115) dX0_takePulse_114 rfl rfl (J_iand (pq := 116) dX0_takePulse_115 rfl (J_iast (pq := 117) dX0_takePulse_116 rfl (by first | exact hc0 | exact hc1 | exact hc2 | exact hc3 | exact hc4 | exact hc5 | exact hc6 | exact hc7) (by assumption) (J_vret dX0_takePulse_117 rfl ?_))))))))
            refine ⟨rfl, ?_⟩
            simp [xPulse, hx, c0, c2, c3, c4, gi_si]
      · simp only [hx, gi_si] at c
        simp at c
        have c2 := c
        refine J_aload_n (pq := 43) dX0_takePulse_42 rfl rfl (J_getA (pq := 46) dX0_takePulse_43 rfl f_X0_43 (by decide +kernel) (by first | exact hc0 | exact hc1 | exact hc2 | exact hc3 | exact hc4 | exact hc5 | exact hc6 | exact hc7) (by first | exact hr8 | exact hr9 | exact hr10 | exact hr11 | exact hr12 | exact hr13 | exact hr14) (J_iload_n (pq := 47) dX0_takePulse_46 rfl rfl (J_iald (pq := 48) dX0_takePulse_47 rfl (by first | exact hc0 | exact hc1 | exact hc2 | exact hc3 | exact hc4 | exact hc5 | exact hc6 | exact hc7) (by assumption) (J_iconst (pq := 49) dX0_takePulse_48 rfl c_iconst_1 (J_iadd (pq := 50) dX0_takePulse_49 rfl (J_goto (tgt := 54) dX0_takePulse_50 rfl (J_iast (pq := 55) dX0_takePulse_54 rfl (by first | exact hc0 | exact hc1 | exact hc2 | exact hc3 | exact hc4 | exact hc5 | exact hc6 | exact hc7) (by assumption) (J_aload_n (pq := 56) dX0_takePulse_55 rfl rfl (J_getA (pq := 59) dX0_takePulse_56 rfl f_X0_46 (by decide +kernel) (by first | exact hc0 | exact hc1 | exact hc2 | exact hc3 | exact hc4 | exact hc5 | exact hc6 | exact hc7) (by first | exact hr8 | exact hr9 | exact hr10 | exact hr11 | exact hr12 | exact hr13 | exact hr14) (J_iload_n (pq := 60) dX0_takePulse_59 rfl rfl (J_iload_n (pq := 61) dX0_takePulse_60 rfl rfl (J_iast (pq := 62) dX0_takePulse_61 rfl (by first | exact hc0 | exact hc1 | exact hc2 | exact hc3 | exact hc4 | exact hc5 | exact hc6 | exact hc7) (by assumption) (J_aload_n (pq := 63) dX0_takePulse_62 rfl rfl (J_getA (pq := 66) dX0_takePulse_63 rfl f_X0_43 (by decide +kernel) (by first | exact hc0 | exact hc1 | exact hc2 | exact hc3 | exact hc4 | exact hc5 | exact hc6 | exact hc7) (by first | exact hr8 | exact hr9 | exact hr10 | exact hr11 | exact hr12 | exact hr13 | exact hr14) (J_iload_n (pq := 67) dX0_takePulse_66 rfl rfl (J_iald (pq := 68) dX0_takePulse_67 rfl (by first | exact hc0 | exact hc1 | exact hc2 | exact hc3 | exact hc4 | exact hc5 | exact hc6 | exact hc7) (by assumption) (J_aload_n (pq := 69) dX0_takePulse_68 rfl rfl (J_getA (pq := 72) dX0_takePulse_69 rfl f_X0_40 (by decide +kernel) (by first | exact hc0 | exact hc1 | exact hc2 | exact hc3 | exact hc4 | exact hc5 | exact hc6 | exact hc7) (by first | exact hr8 | exact hr9 | exact hr10 | exact hr11 | exact hr12 | exact hr13 | exact hr14) (J_iload_n (pq := 73) dX0_takePulse_72 rfl rfl (J_iald (pq := 74) dX0_takePulse_73 rfl (by first | exact hc0 | exact hc1 | exact hc2 | exact hc3 | exact hc4 | exact hc5 | exact hc6 | exact hc7) (by assumption) (J_icmp_lt (pq := 77) (tgt := 87) dX0_takePulse_74 rfl rfl (fun c => ?_) (fun c => ?_))))))))))))))))))))))
        · simp only [hx, gi_si] at c
          simp at c
          have c3 := c
          refine J_aload_n (pq := 88) dX0_takePulse_87 rfl rfl (J_getA (pq := 91) dX0_takePulse_88 rfl f_X0_43 (by decide +kernel) (by first | exact hc0 | exact hc1 | exact hc2 | exact hc3 | exact hc4 | exact hc5 | exact hc6 | exact hc7) (by first | exact hr8 | exact hr9 | exact hr10 | exact hr11 | exact hr12 | exact hr13 | exact hr14) (J_iload_n (pq := 92) dX0_takePulse_91 rfl rfl (J_iald (pq := 93) dX0_takePulse_92 rfl (by first | exact hc0 | exact hc1 | exact hc2 | exact hc3 | exact hc4 | exact hc5 | exact hc6 | exact hc7) (by assumption) (J_aload_n (pq := 94) dX0_takePulse_93 rfl rfl (J_getA (pq := 97) dX0_takePulse_94 rfl f_X0_40 (by decide +kernel) (by first | exact hc0 | exact hc1 | exact hc2 | exact hc3 | exact hc4 | exact hc5 | exact hc6 | exact hc7) (by first | exact hr8 | exact hr9 | exact hr10 | exact hr11 | exact hr12 | exact hr13 | exact hr14) (J_iload_n (pq := 98) dX0_takePulse_97 rfl rfl (J_iald (pq := 99) dX0_takePulse_98 rfl (by first | exact hc0 | exact hc1 | exact hc2 | exact hc3 | exact hc4 | exact hc5 | exact hc6 | exact hc7) (by assumption) (J_aload_n (pq := 100) dX0_takePulse_99 rfl rfl (J_getI (pq := 103) dX0_takePulse_100 rfl f_X0_64 jsI (by first | exact hc0 | exact hc1 | exact hc2 | exact hc3 | exact hc4 | exact hc5 | exact hc6 | exact hc7) (J_iadd (pq := 104) dX0_takePulse_103 rfl (J_icmp_lt (pq := 107) (tgt := 117) dX0_takePulse_104 rfl rfl (fun c => ?_) (fun c => ?_))))))))))))
          · simp only [hx, gi_si] at c
            simp at c
            have c4 := c
            refine J_vret dX0_takePulse_117 rfl ?_
            refine ⟨rfl, ?_⟩
            simp [xPulse, hx, c0, c2, i_nle.mpr c3, i_nle.mpr c4, gi_si]
          · simp only [hx, gi_si] at c
            simp at c
            have c4 := c
            refine J_aload_n (pq := 108) dX0_takePulse_107 rfl rfl (J_getA (pq := 111) dX0_takePulse_108 rfl f_X0_37 (by decide +kernel) (by first | exact hc0 | exact hc1 | exact hc2 | exact hc3 | exact hc4 | exact hc5 | exact hc6 | exact hc7) (by first | exact hr8 | exact hr9 | exact hr10 | exact hr11 | exact hr12 | exact hr13 | exact hr14) (J_iload_n (pq := 112) dX0_takePulse_111 rfl rfl (J_dup2 (pq := 113) dX0_takePulse_112 rfl rfl rfl (J_iald (pq := 114) dX0_takePulse_113 rfl (by first | exact hc0 | exact hc1 | exact hc2 | exact hc3 | exact hc4 | exact hc5 | exact hc6 | exact hc7) (by assumption) (J_iload_n (pq := 115) dX0_takePulse_114 rfl rfl (J_iand (pq := 116) dX0_takePulse_115 rfl (J_iast (pq := 117) dX0_takePulse_116 rfl (by first | exact hc0 | exact hc1 | exact hc2 | exact hc3 | exact hc4 | exact hc5 | exact hc6 | exact hc7) (by assumption) (J_vret dX0_takePulse_117 rfl ?_))))))))
            refine ⟨rfl, ?_⟩
            simp [xPulse, hx, c0, c2, i_nle.mpr c3, c4, gi_si]
        · simp only [hx, gi_si] at c
          simp at c
          have c3 := c
          refine J_aload_n (pq := 78) dX0_takePulse_77 rfl rfl (J_getA (pq := 81) dX0_takePulse_78 rfl f_X0_33 (by decide +kernel) (by first | exact hc0 | exact hc1 | exact hc2 | exact hc3 | exact hc4 | exact hc5 | exact hc6 | exact hc7) (by first | exact hr8 | exact hr9 | exact hr10 | exact hr11 | exact hr12 | exact hr13 | exact hr14) (J_iload_n (pq := 82) dX0_takePulse_81 rfl rfl (J_dup2 (pq := 83) dX0_takePulse_82 rfl rfl rfl (J_iald (pq := 84) dX0_takePulse_83 rfl (by first | exact hc0 | exact hc1 | exact hc2 | exact hc3 | exact hc4 | exact hc5 | exact hc6 | exact hc7) (by assumption) (J_iload_n (pq := 85) dX0_takePulse_84 rfl rfl (J_iand (pq := 86) dX0_takePulse_85 rfl (J_iast (pq := 87) dX0_takePulse_86 rfl (by first | exact hc0 | exact hc1 | exact hc2 | exact hc3 | exact hc4 | exact hc5 | exact hc6 | exact hc7) (by assumption) (J_aload_n (pq := 88) dX0_takePulse_87 rfl rfl (J_getA (pq := 91) dX0_takePulse_88 rfl f_X0_43 (by decide +kernel) (by first | exact hc0 | exact hc1 | exact hc2 | exact hc3 | exact hc4 | exact hc5 | exact hc6 | exact hc7) (by first | exact hr8 | exact hr9 | exact hr10 | exact hr11 | exact hr12 | exact hr13 | exact hr14) (J_iload_n (pq := 92) dX0_takePulse_91 rfl rfl (J_iald (pq := 93) dX0_takePulse_92 rfl (by first | exact hc0 | exact hc1 | exact hc2 | exact hc3 | exact hc4 | exact hc5 | exact hc6 | exact hc7) (by assumption) (J_aload_n (pq := 94) dX0_takePulse_93 rfl rfl (J_getA (pq := 97) dX0_takePulse_94 rfl f_X0_40 (by decide +kernel) (by first | exact hc0 | exact hc1 | exact hc2 | exact hc3 | exact hc4 | exact hc5 | exact hc6 | exact hc7) (by first | exact hr8 | exact hr9 | exact hr10 | exact hr11 | exact hr12 | exact hr13 | exact hr14) (J_iload_n (pq := 98) dX0_takePulse_97 rfl rfl (J_iald (pq := 99) dX0_takePulse_98 rfl (by first | exact hc0 | exact hc1 | exact hc2 | exact hc3 | exact hc4 | exact hc5 | exact hc6 | exact hc7) (by assumption) (J_aload_n (pq := 100) dX0_takePulse_99 rfl rfl (J_getI (pq := 103) dX0_takePulse_100 rfl f_X0_64 jsI (by first | exact hc0 | exact hc1 | exact hc2 | exact hc3 | exact hc4 | exact hc5 | exact hc6 | exact hc7) (J_iadd (pq := 104) dX0_takePulse_103 rfl (J_icmp_lt (pq := 107) (tgt := 117) dX0_takePulse_104 rfl rfl (fun c => ?_) (fun c => ?_))))))))))))))))))))
          · simp only [hx, gi_si] at c
            simp at c
            have c4 := c
            refine J_vret dX0_takePulse_117 rfl ?_
            refine ⟨rfl, ?_⟩
            simp [xPulse, hx, c0, c2, c3, i_nle.mpr c4, gi_si]
          · simp only [hx, gi_si] at c
            simp at c
            have c4 := c
            refine J_aload_n (pq := 108) dX0_takePulse_107 rfl rfl (J_getA (pq := 111) dX0_takePulse_108 rfl f_X0_37 (by decide +kernel) (by first | exact hc0 | exact hc1 | exact hc2 | exact hc3 | exact hc4 | exact hc5 | exact hc6 | exact hc7) (by first | exact hr8 | exact hr9 | exact hr10 | exact hr11 | exact hr12 | exact hr13 | exact hr14) (J_iload_n (pq := 112) dX0_takePulse_111 rfl rfl (J_dup2 (pq := 113) dX0_takePulse_112 rfl rfl rfl (J_iald (pq := 114) dX0_takePulse_113 rfl (by first | exact hc0 | exact hc1 | exact hc2 | exact hc3 | exact hc4 | exact hc5 | exact hc6 | exact hc7) (by assumption) (J_iload_n (pq := 115) dX0_takePulse_114 rfl rfl (J_iand (pq := 116) dX0_takePulse_115 rfl (J_iast (pq := 117) dX0_takePulse_116 rfl (by first | exact hc0 | exact hc1 | exact hc2 | exact hc3 | exact hc4 | exact hc5 | exact hc6 | exact hc7) (by assumption) (J_vret dX0_takePulse_117 rfl ?_))))))))
            refine ⟨rfl, ?_⟩
            simp [xPulse, hx, c0, c2, c3, c4, gi_si]
/-- an erasing -/
def xWipe0 (h : JH) (q s : Nat) : JH := fillN (fillN (fillN (fillN (si h q 15 (gi h q 15 + 1)) (q + 3) (8 * s) 255) (q + 4) (8 * s) 255) (q + 6) (8 * s) 0) (q + 7) (8 * s) (-1)
def incN (h : JH) (o n : Nat) : JH := (fun a b => if a = o ∧ b < n then h.1 a b + 1 else h.1 a b, h.2)
theorem incN_0 (h : JH) (o : Nat) : incN h o 0 = h := by unfold incN; simp
theorem gi_incN (h : JH) (o n a b : Nat) : gi (incN h o n) a b = if a = o ∧ b < n then gi h a b + 1 else gi h a b := rfl
theorem incN_s (h : JH) (o n : Nat) : si (incN h o n) o n (gi (incN h o n) o n + 1) = incN h o (n + 1) := JH_ext rfl (fun a b => by
  rw [gi_si, gi_incN, gi_incN, gi_incN]
  by_cases ha : a = o
  · by_cases hb : b = n
    · subst ha; subst hb; simp
    · rw [if_neg (by omega)]
      by_cases h2 : b < n
      · rw [if_pos ⟨ha, h2⟩, if_pos ⟨ha, by omega⟩]
      · rw [if_neg (by omega), if_neg (by omega)]
  · rw [if_neg (by omega), if_neg (by omega), if_neg (by omega)])
theorem j_X0_wipe (hC : CK h q s) : JF x yX0_wipe cX0_wipe 2 none 1 0 0 [.ref q] h none (if gi h q 7 < gi h q 15 + 1 then incN (xWipe0 h q s) (q + 5) (8 * s) else xWipe0 h q s) := by
  have hC0 := hC
  obtain ⟨⟨hc0, hc1, hc2, hc3, hc4, hc5, hc6, hc7⟩, ⟨hr8, hr9, hr10, hr11, hr12, hr13, hr14⟩, hz, hs1, hs2⟩ := hC
  refine JM_of [some (.ref q), none] (by decide) (Nat.le_of_ble_eq_true rfl) rfl ?_
  have f1 : ∀ (g : JH), kd g = kd h → (kd g)[q + 3]? = some (50, 8 * s) := fun g e => by rw [e]; exact hc3
  refine J_aload_n (pq := 1) dX0_wipe_0 rfl rfl (J_dup (pq := 2) dX0_wipe_1 rfl rfl (J_getI (pq := 5) dX0_wipe_2 rfl f_X0_81 jsI (by first | exact hc0 | exact hc1 | exact hc2 | exact hc3 | exact hc4 | exact hc5 | exact hc6 | exact hc7) (J_iconst (pq := 6) dX0_wipe_5 rfl c_iconst_1 (J_iadd (pq := 7) dX0_wipe_6 rfl (J_putI (pq := 10) dX0_wipe_7 rfl f_X0_81 (Or.inl rfl) (by first | exact hc0 | exact hc1 | exact hc2 | exact hc3 | exact hc4 | exact hc5 | exact hc6 | exact hc7) (J_aload_n (pq := 11) dX0_wipe_10 rfl rfl (J_getA (pq := 14) dX0_wipe_11 rfl f_X0_33 (by decide +kernel) (by first | exact hc0 | exact hc1 | exact hc2 | exact hc3 | exact hc4 | exact hc5 | exact hc6 | exact hc7) (by first | exact hr8 | exact hr9 | exact hr10 | exact hr11 | exact hr12 | exact hr13 | exact hr14) (J_sipush (pq := 17) dX0_wipe_14 rfl c_sipush_255 (J_statF (pq := 20) dX0_wipe_17 rfl (j_fill (n := 8 * s) hc3 (by omega)) rfl tg_J7_fill_53178 l_X0_49 st_J7_fill_53178 (Nat.le_of_ble_eq_true rfl) (Nat.zero_le _) (Nat.zero_le _) (Nat.le_of_ble_eq_true rfl) (J_aload_n (pq := 21) dX0_wipe_20 rfl rfl (J_getA (pq := 24) dX0_wipe_21 rfl f_X0_37 (by decide +kernel) (by first | exact hc0 | exact hc1 | exact hc2 | exact hc3 | exact hc4 | exact hc5 | exact hc6 | exact hc7) (by first | exact hr8 | exact hr9 | exact hr10 | exact hr11 | exact hr12 | exact hr13 | exact hr14) (J_sipush (pq := 27) dX0_wipe_24 rfl c_sipush_255 (J_statF (pq := 30) dX0_wipe_27 rfl (j_fill (n := 8 * s) hc4 (by omega)) rfl tg_J7_fill_53178 l_X0_49 st_J7_fill_53178 (Nat.le_of_ble_eq_true rfl) (Nat.zero_le _) (Nat.zero_le _) (Nat.le_of_ble_eq_true rfl) (J_aload_n (pq := 31) dX0_wipe_30 rfl rfl (J_getA (pq := 34) dX0_wipe_31 rfl f_X0_43 (by decide +kernel) (by first | exact hc0 | exact hc1 | exact hc2 | exact hc3 | exact hc4 | exact hc5 | exact hc6 | exact hc7) (by first | exact hr8 | exact hr9 | exact hr10 | exact hr11 | exact hr12 | exact hr13 | exact hr14) (J_iconst (pq := 35) dX0_wipe_34 rfl c_iconst_0 (J_statF (pq := 38) dX0_wipe_35 rfl (j_fill (n := 8 * s) hc6 (by omega)) rfl tg_J7_fill_53178 l_X0_49 st_J7_fill_53178 (Nat.le_of_ble_eq_true rfl) (Nat.zero_le _) (Nat.zero_le _) (Nat.le_of_ble_eq_true rfl) (J_aload_n (pq := 39) dX0_wipe_38 rfl rfl (J_getA (pq := 42) dX0_wipe_39 rfl f_X0_46 (by decide +kernel) (by first | exact hc0 | exact hc1 | exact hc2 | exact hc3 | exact hc4 | exact hc5 | exact hc6 | exact hc7) (by first | exact hr8 | exact hr9 | exact hr10 | exact hr11 | exact hr12 | exact hr13 | exact hr14) (J_iconst (pq := 43) dX0_wipe_42 rfl c_iconst_m1 (J_statF (pq := 46) dX0_wipe_43 rfl (j_fill (n := 8 * s) hc7 (by omega)) rfl tg_J7_fill_53178 l_X0_49 st_J7_fill_53178 (Nat.le_of_ble_eq_true rfl) (Nat.zero_le _) (Nat.zero_le _) (Nat.le_of_ble_eq_true rfl) (?_))))))))))))))))))))))
  show J x yX0_wipe cX0_wipe 2 none 1 0 0 _ 46 _ _ (xWipe0 h q s)
  have e15 : gi (xWipe0 h q s) q 15 = gi h q 15 + 1 := by simp [xWipe0, gi_fillN, gi_si]
  have e7 : gi (xWipe0 h q s) q 7 = gi h q 7 := by simp [xWipe0, gi_fillN, gi_si]
  have e0 : gi (xWipe0 h q s) q 0 = gi h q 0 := by simp [xWipe0, gi_fillN, gi_si]
  have eZ : (xWipe0 h q s).2.2 = h.2.2 := rfl
  generalize xWipe0 h q s = g at *
  have hCg := hC0.of3 eZ e0
  obtain ⟨⟨hc0, hc1, hc2, hc3, hc4, hc5, hc6, hc7⟩, ⟨hr8, hr9, hr10, hr11, hr12, hr13, hr14⟩, hz, hs1, hs2⟩ := hCg
  refine J_aload_n (pq := 47) dX0_wipe_46 rfl rfl (J_getI (pq := 50) dX0_wipe_47 rfl f_X0_81 jsI (by first | exact hc0 | exact hc1 | exact hc2 | exact hc3 | exact hc4 | exact hc5 | exact hc6 | exact hc7) (J_aload_n (pq := 51) dX0_wipe_50 rfl rfl (J_getI (pq := 54) dX0_wipe_51 rfl f_X0_67 jsI (by first | exact hc0 | exact hc1 | exact hc2 | exact hc3 | exact hc4 | exact hc5 | exact hc6 | exact hc7) (J_icmp_le (pq := 57) (tgt := 83) dX0_wipe_54 rfl rfl (fun c => ?_) (fun c => ?_)))))
  · rw [e15, e7] at c
    refine J_vret dX0_wipe_83 rfl ?_
    exact ⟨rfl, by rw [if_neg (i_nlt.mpr c)]⟩
  · rw [e15, e7] at c
    have c9 := i_nle.mp c
    refine J_iconst (pq := 58) dX0_wipe_57 rfl c_iconst_0 (J_istore_m 1 (pq := 59) dX0_wipe_58 rfl rfl (Nat.le_of_ble_eq_true rfl) (Nat.le_of_ble_eq_true rfl) rfl (?_))
    refine J_loop (σ := Nat) (fun k => [some (.ref q), some (.int (nI k))]) (fun _ => []) (fun k => incN g (q + 5) k) (fun k => k ≤ 8 * s) (fun k => 8 * s - k) 0 rfl rfl (incN_0 _ _).symm (Nat.zero_le _) (fun k hk ih => ?_)
    have hz' : gi (incN g (q + 5) k) q 0 = nI (8 * s) := by rw [gi_incN, if_neg (by omega)]; exact hz
    refine J_iload_n (pq := 60) dX0_wipe_59 rfl rfl (J_aload_n (pq := 61) dX0_wipe_60 rfl rfl (J_getI (pq := 64) dX0_wipe_61 rfl f_X0_22 jsI (by first | exact hc0 | exact hc1 | exact hc2 | exact hc3 | exact hc4 | exact hc5 | exact hc6 | exact hc7) (J_icmp_ge (pq := 67) (tgt := 83) dX0_wipe_64 rfl rfl (fun c => ?_) (fun c => ?_))))
    · rw [hz', nI_leI (by omega) (by omega)] at c
      refine J_vret dX0_wipe_83 rfl ?_
      refine ⟨rfl, ?_⟩
      rw [if_pos c9, show k = 8 * s by omega]
    · rw [hz', nI_leI (by omega) (by omega)] at c
      have hb : vp_in (nI k) (8 * s) := vp_in_nI (by omega) (by omega)
      refine J_aload_n (pq := 68) dX0_wipe_67 rfl rfl (J_getA (pq := 71) dX0_wipe_68 rfl f_X0_40 (by decide +kernel) (by first | exact hc0 | exact hc1 | exact hc2 | exact hc3 | exact hc4 | exact hc5 | exact hc6 | exact hc7) (by first | exact hr8 | exact hr9 | exact hr10 | exact hr11 | exact hr12 | exact hr13 | exact hr14) (J_iload_n (pq := 72) dX0_wipe_71 rfl rfl (J_dup2 (pq := 73) dX0_wipe_72 rfl rfl rfl (J_iald (pq := 74) dX0_wipe_73 rfl (by first | exact hc0 | exact hc1 | exact hc2 | exact hc3 | exact hc4 | exact hc5 | exact hc6 | exact hc7) (by assumption) (J_iconst (pq := 75) dX0_wipe_74 rfl c_iconst_1 (J_iadd (pq := 76) dX0_wipe_75 rfl (J_iast (pq := 77) dX0_wipe_76 rfl (by first | exact hc0 | exact hc1 | exact hc2 | exact hc3 | exact hc4 | exact hc5 | exact hc6 | exact hc7) (by assumption) (J_iinc (pq := 80) dX0_wipe_77 rfl c_iconst_1 rfl (Nat.le_of_ble_eq_true rfl) rfl (J_goto (tgt := 59) dX0_wipe_80 rfl (?_))))))))))
      rw [nI_1, ixn (by omega), incN_s]
      exact ih (k + 1) (by omega) (by omega)
/-- what a chip tells of itself -/
def xProp (h : JH) (q s : Nat) (w : Int32) : Int32 := if w = 0 then nI (8 * s) else if w = 1 then nI (8 * goodc (xBad h q) s) else if w = 2 then lkf (xLack h q) 28 0 else if w = 3 then gi h q 15 else if w = 4 then gi h q 16 else -1
theorem j_X0_property {w : Int32} (hC : CK h q s) : JF x yX0_property cX0_property 2 (some .int) 2 0 0 [.ref q, .int w] h (some (.int (xProp h q s w))) h := by
  have hC0 := hC
  obtain ⟨⟨hc0, hc1, hc2, hc3, hc4, hc5, hc6, hc7⟩, ⟨hr8, hr9, hr10, hr11, hr12, hr13, hr14⟩, hz, hs1, hs2⟩ := hC
  refine JM_of [some (.ref q), some (.int w)] (by decide) (Nat.le_of_ble_eq_true rfl) rfl ?_
  refine J_iload_n (pq := 1) dX0_property_0 rfl rfl (?_)
  by_cases hw : isin w 0 4 = true
  · obtain ⟨k, hk, rfl⟩ := (isK (n := 4) (by omega)).mp hw
    rcases (show k = 0 ∨ k = 1 ∨ k = 2 ∨ k = 3 ∨ k = 4 by omega) with rfl | rfl | rfl | rfl | rfl
    · refine J_tabIn (tgt := 36) dX0_property_1 (by decide) (by decide) rfl rfl ?_
      refine J_aload_n (pq := 37) dX0_property_36 rfl rfl (J_getI (pq := 40) dX0_property_37 rfl f_X0_22 jsI (by first | exact hc0 | exact hc1 | exact hc2 | exact hc3 | exact hc4 | exact hc5 | exact hc6 | exact hc7) (J_iret dX0_property_40 rfl rfl ?_))
      exact ⟨by rw [hz]; rfl, rfl⟩
    · refine J_tabIn (tgt := 41) dX0_property_1 (by decide) (by decide) rfl rfl ?_
      refine J_aload_n (pq := 42) dX0_property_41 rfl rfl (J_virtF (pq := 45) dX0_property_42 rfl (j_X0_logicalCount hC0) rfl tg_X0_logicalCount l_X0_84 vi_X0_logicalCount (by first | exact hc0 | exact hc1 | exact hc2 | exact hc3 | exact hc4 | exact hc5 | exact hc6 | exact hc7) ⟨by decide, rfl⟩ (Nat.le_of_ble_eq_true rfl) (Nat.zero_le _) (Nat.zero_le _) (Nat.le_of_ble_eq_true rfl) (J_iret dX0_property_45 rfl rfl ?_))
      exact ⟨rfl, rfl⟩
    · refine J_tabIn (tgt := 46) dX0_property_1 (by decide) (by decide) rfl rfl ?_
      refine J_aload_n (pq := 47) dX0_property_46 rfl rfl (J_virtF (pq := 50) dX0_property_47 rfl (j_X0_firstLackingPin hC0) rfl tg_X0_firstLackingPin l_X0_87 vi_X0_firstLackingPin (by first | exact hc0 | exact hc1 | exact hc2 | exact hc3 | exact hc4 | exact hc5 | exact hc6 | exact hc7) ⟨by decide, rfl⟩ (Nat.le_of_ble_eq_true rfl) (Nat.zero_le _) (Nat.zero_le _) (Nat.le_of_ble_eq_true rfl) (J_iret dX0_property_50 rfl rfl ?_))
      exact ⟨rfl, rfl⟩
    · refine J_tabIn (tgt := 51) dX0_property_1 (by decide) (by decide) rfl rfl ?_
      refine J_aload_n (pq := 52) dX0_property_51 rfl rfl (J_getI (pq := 55) dX0_property_52 rfl f_X0_81 jsI (by first | exact hc0 | exact hc1 | exact hc2 | exact hc3 | exact hc4 | exact hc5 | exact hc6 | exact hc7) (J_iret dX0_property_55 rfl rfl ?_))
      exact ⟨rfl, rfl⟩
    · refine J_tabIn (tgt := 56) dX0_property_1 (by decide) (by decide) rfl rfl ?_
      refine J_aload_n (pq := 57) dX0_property_56 rfl rfl (J_getI (pq := 60) dX0_property_57 rfl f_X0_90 jsI (by first | exact hc0 | exact hc1 | exact hc2 | exact hc3 | exact hc4 | exact hc5 | exact hc6 | exact hc7) (J_iret dX0_property_60 rfl rfl ?_))
      exact ⟨rfl, rfl⟩
  · rw [isin_t] at hw
    have z0 : (0 : Int32).toInt = 0 := rfl
    have z4 : (4 : Int32).toInt = 4 := rfl
    rw [z0, z4] at hw
    refine J_tabOut (tgt := 61) dX0_property_1 (by omega) rfl ?_
    refine J_iconst (pq := 62) dX0_property_61 rfl c_iconst_m1 (J_iret dX0_property_62 rfl rfl ?_)
    refine ⟨?_, rfl⟩
    unfold xProp
    rw [if_neg (fun q => hw (by rw [q]; decide)), if_neg (fun q => hw (by rw [q]; decide)), if_neg (fun q => hw (by rw [q]; decide)), if_neg (fun q => hw (by rw [q]; decide)), if_neg (fun q => hw (by rw [q]; decide))]
/-- what a chip tells of an address -/
def xCell (h : JH) (q s w a : Nat) : Int32 := if w = 5 then (if a < 8 * goodc (xBad h q) s then nI (xAdr h q s a) else -1) else if a < 8 * s then (if w = 1 then gi h (q + 3) a else if w = 2 then gi h (q + 4) a else if w = 3 then gi h (q + 5) a else if w = 4 then gi h (q + 6) a else -1) else -1
theorem j_X0_cell {w a : Nat} (hC : CK h q s) (hw : w < 2147483648) (ha : a < 2147483648) : JF x yX0_cell cX0_cell 3 (some .int) 2 0 0 [.ref q, .int (nI w), .int (nI a)] h (some (.int (xCell h q s w a))) h := by
  have hC0 := hC
  obtain ⟨⟨hc0, hc1, hc2, hc3, hc4, hc5, hc6, hc7⟩, ⟨hr8, hr9, hr10, hr11, hr12, hr13, hr14⟩, hz, hs1, hs2⟩ := hC
  refine JM_of [some (.ref q), some (.int (nI w)), some (.int (nI a))] (by decide) (Nat.le_of_ble_eq_true rfl) rfl ?_
  have hx : ix (nI a) = a := ixn ha
  refine J_iload_n (pq := 1) dX0_cell_0 rfl rfl (J_iconst (pq := 2) dX0_cell_1 rfl c_iconst_5 (J_icmp_ne (pq := 5) (tgt := 11) dX0_cell_2 rfl rfl (fun c => ?_) (fun c => ?_)))
  · rw [show (5 : Int32) = nI 5 from rfl, nI_eq hw (by omega)] at c
    have c0 := c
    refine J_aload_n (pq := 12) dX0_cell_11 rfl rfl (J_iload_n (pq := 13) dX0_cell_12 rfl rfl (J_virtF (pq := 16) dX0_cell_13 rfl (j_X0_isAddress hC0) rfl tg_X0_isAddress l_X0_70 vi_X0_isAddress (by first | exact hc0 | exact hc1 | exact hc2 | exact hc3 | exact hc4 | exact hc5 | exact hc6 | exact hc7) ⟨by decide, rfl⟩ (Nat.le_of_ble_eq_true rfl) (Nat.zero_le _) (Nat.zero_le _) (Nat.le_of_ble_eq_true rfl) (J_if_ne (pq := 19) (tgt := 21) dX0_cell_16 rfl rfl (fun c => ?_) (fun c => ?_))))
    · rw [bi_0, Bool.not_eq_false] at c
      obtain ⟨k, hk, e⟩ := (isinN (by omega)).mp c
      rw [nI_eq ha (by omega)] at e
      subst e
      have hb : vp_in (nI a) (8 * s) := vp_in_nI hk (by omega)
      have hm : xCell h q s w a = if w = 1 then gi h (q + 3) a else if w = 2 then gi h (q + 4) a else if w = 3 then gi h (q + 5) a else if w = 4 then gi h (q + 6) a else -1 := by
        unfold xCell; rw [if_neg c0, if_pos hk]
      rw [hm]
      refine J_iload_n (pq := 22) dX0_cell_21 rfl rfl (?_)
      by_cases h4 : 1 ≤ w ∧ w ≤ 4
      · rcases (show w = 1 ∨ w = 2 ∨ w = 3 ∨ w = 4 by omega) with rfl | rfl | rfl | rfl
        · refine J_tabIn (tgt := 52) dX0_cell_22 (by decide) (by decide) rfl rfl ?_
          refine J_aload_n (pq := 53) dX0_cell_52 rfl rfl (J_getA (pq := 56) dX0_cell_53 rfl f_X0_33 (by decide +kernel) (by first | exact hc0 | exact hc1 | exact hc2 | exact hc3 | exact hc4 | exact hc5 | exact hc6 | exact hc7) (by first | exact hr8 | exact hr9 | exact hr10 | exact hr11 | exact hr12 | exact hr13 | exact hr14) (J_iload_n (pq := 57) dX0_cell_56 rfl rfl (J_iald (pq := 58) dX0_cell_57 rfl (by first | exact hc0 | exact hc1 | exact hc2 | exact hc3 | exact hc4 | exact hc5 | exact hc6 | exact hc7) (by assumption) (J_iret dX0_cell_58 rfl rfl ?_))))
          exact ⟨by rw [hx]; rfl, rfl⟩
        · refine J_tabIn (tgt := 59) dX0_cell_22 (by decide) (by decide) rfl rfl ?_
          refine J_aload_n (pq := 60) dX0_cell_59 rfl rfl (J_getA (pq := 63) dX0_cell_60 rfl f_X0_37 (by decide +kernel) (by first | exact hc0 | exact hc1 | exact hc2 | exact hc3 | exact hc4 | exact hc5 | exact hc6 | exact hc7) (by first | exact hr8 | exact hr9 | exact hr10 | exact hr11 | exact hr12 | exact hr13 | exact hr14) (J_iload_n (pq := 64) dX0_cell_63 rfl rfl (J_iald (pq := 65) dX0_cell_64 rfl (by first | exact hc0 | exact hc1 | exact hc2 | exact hc3 | exact hc4 | exact hc5 | exact hc6 | exact hc7) (by assumption) (J_iret dX0_cell_65 rfl rfl ?_))))
          exact ⟨by rw [hx]; rfl, rfl⟩
        · refine J_tabIn (tgt := 66) dX0_cell_22 (by decide) (by decide) rfl rfl ?_
          refine J_aload_n (pq := 67) dX0_cell_66 rfl rfl (J_getA (pq := 70) dX0_cell_67 rfl f_X0_40 (by decide +kernel) (by first | exact hc0 | exact hc1 | exact hc2 | exact hc3 | exact hc4 | exact hc5 | exact hc6 | exact hc7) (by first | exact hr8 | exact hr9 | exact hr10 | exact hr11 | exact hr12 | exact hr13 | exact hr14) (J_iload_n (pq := 71) dX0_cell_70 rfl rfl (J_iald (pq := 72) dX0_cell_71 rfl (by first | exact hc0 | exact hc1 | exact hc2 | exact hc3 | exact hc4 | exact hc5 | exact hc6 | exact hc7) (by assumption) (J_iret dX0_cell_72 rfl rfl ?_))))
          exact ⟨by rw [hx]; rfl, rfl⟩
        · refine J_tabIn (tgt := 73) dX0_cell_22 (by decide) (by decide) rfl rfl ?_
          refine J_aload_n (pq := 74) dX0_cell_73 rfl rfl (J_getA (pq := 77) dX0_cell_74 rfl f_X0_43 (by decide +kernel) (by first | exact hc0 | exact hc1 | exact hc2 | exact hc3 | exact hc4 | exact hc5 | exact hc6 | exact hc7) (by first | exact hr8 | exact hr9 | exact hr10 | exact hr11 | exact hr12 | exact hr13 | exact hr14) (J_iload_n (pq := 78) dX0_cell_77 rfl rfl (J_iald (pq := 79) dX0_cell_78 rfl (by first | exact hc0 | exact hc1 | exact hc2 | exact hc3 | exact hc4 | exact hc5 | exact hc6 | exact hc7) (by assumption) (J_iret dX0_cell_79 rfl rfl ?_))))
          exact ⟨by rw [hx]; rfl, rfl⟩
      · refine J_tabOut (tgt := 80) dX0_cell_22 (by rw [nI_toInt hw]; omega) rfl ?_
        refine J_iconst (pq := 81) dX0_cell_80 rfl c_iconst_m1 (J_iret dX0_cell_81 rfl rfl ?_)
        refine ⟨?_, rfl⟩
        rw [if_neg (by omega), if_neg (by omega), if_neg (by omega), if_neg (by omega)]
    · rw [bi_0] at c
      refine J_iconst (pq := 20) dX0_cell_19 rfl c_iconst_m1 (J_iret dX0_cell_20 rfl rfl ?_)
      refine ⟨?_, rfl⟩
      unfold xCell
      rw [if_neg c0, if_neg (fun hk => by rw [isA hs2 hk] at c; cases c)]
  · rw [show (5 : Int32) = nI 5 from rfl, nI_eq hw (by omega)] at c
    refine J_aload_n (pq := 6) dX0_cell_5 rfl rfl (J_iload_n (pq := 7) dX0_cell_6 rfl rfl (J_virtF (pq := 10) dX0_cell_7 rfl (j_X0_addressOf hC0 ha) rfl tg_X0_addressOf l_X0_93 vi_X0_addressOf (by first | exact hc0 | exact hc1 | exact hc2 | exact hc3 | exact hc4 | exact hc5 | exact hc6 | exact hc7) ⟨by decide, rfl⟩ (Nat.le_of_ble_eq_true rfl) (Nat.zero_le _) (Nat.zero_le _) (Nat.le_of_ble_eq_true rfl) (J_iret dX0_cell_10 rfl rfl ?_)))
    refine ⟨?_, rfl⟩
    unfold xCell
    rw [if_pos c]
end A3
