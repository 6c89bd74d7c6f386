section F3
variable {x : JX} {h : JH}
theorem j_X9_lineTwo {a e : Nat} (hK : Kin h) (hR : MR h) (hae : a < e) (he : e ≤ 400) (hby : ∀ j, j < 400 → 0 ≤ gi h 40 j) : JM x yX9_lineTwo cX9_lineTwo 5 (some .int) 3 0 0 [.ref 38, .int (nI a), .int (nI e)] h (fun v g => v = some (.int (nI (lr2 (gi h 40) a e).1)) ∧ LnP (gi h 40) (lr2 (gi h 40) a e) h g) := by
  refine JM_of [some (.ref 38), some (.int (nI a)), some (.int (nI e)), none, none] (by decide) (Nat.le_of_ble_eq_true rfl) rfl ?_
  generalize ht : gi h 40 = t at hby
  have hno : ∀ g, FlF h g → ok2 t a e = false → (some (Value.int 1) = some (.int (nI (lr2 t a e).1)) ∧ LnP t (lr2 t a e) h g) := by
    intro g hg hk
    unfold lr2
    rw [if_neg (by rw [hk]; decide)]
    exact ⟨rfl, hg, fun q => by simp at q⟩
  have hb0 : vp_in (nI a) 400 := vp_in_nI (by omega) (by omega)
  have hx0 : ix (nI a) = a := ixn (by omega)
  have l5 : (4 : Int32) = nI 4 := rfl
  have l1 : (1 : Int32) = nI 1 := rfl
  have l0 : (0 : Int32) = nI 0 := rfl
  refine J_cut (σ := JH) 98 (fun p => [some (.ref 38), some (.int (nI a)), some (.int (nI e)), none, none]) (fun _ => []) (fun p => p) (fun p => FlF h p ∧ ok2 t a e = false) (fun p hp => ?_) (fun k98 => ?_)
  · refine J_iconst (pq := 99) dX9_lineTwo_98 rfl c_iconst_1 (J_iret dX9_lineTwo_99 rfl rfl ?_)
    exact hno _ hp.1 hp.2
  refine J_cut (σ := JH) 60 (fun p => [some (.ref 38), some (.int (nI a)), some (.int (nI e)), none, none]) (fun _ => []) (fun p => p) (fun p => FlF h p ∧ ok2 t a e = false) (fun p hp => ?_) (fun k60 => ?_)
  · refine J_iconst (pq := 61) dX9_lineTwo_60 rfl c_iconst_m1 (J_istore (pq := 63) dX9_lineTwo_61 rfl (Nat.le_of_ble_eq_true rfl) (Nat.le_of_ble_eq_true rfl) rfl (J_iload (pq := 65) dX9_lineTwo_63 rfl rfl (J_iconst (pq := 66) dX9_lineTwo_65 rfl c_iconst_4 (J_icmp_lt (pq := 69) (tgt := 98) dX9_lineTwo_66 rfl rfl (fun c => ?_) (fun c => ?_)))))
    · exact J_weak (by simp [lsub]) rfl rfl (k98 p hp)
    · exact absurd (by decide) c
  refine J_cut (σ := Unit) 29 (fun p => [some (.ref 38), some (.int (nI a)), some (.int (nI e)), none, none]) (fun _ => []) (fun p => h) (fun _ => ok2 t a e = false) (fun p hp => ?_) (fun k29 => ?_)
  · refine J_iconst (pq := 30) dX9_lineTwo_29 rfl c_iconst_m1 (J_istore_m 3 (pq := 31) dX9_lineTwo_30 rfl rfl (Nat.le_of_ble_eq_true rfl) (Nat.le_of_ble_eq_true rfl) rfl (J_iload_n (pq := 32) dX9_lineTwo_31 rfl rfl (J_bipush (pq := 34) dX9_lineTwo_32 rfl c_bipush_48 (J_icmp_eq (pq := 37) (tgt := 49) dX9_lineTwo_34 rfl rfl (fun c => ?_) (fun c => ?_)))))
    · exact absurd c (by decide)
    · refine J_iload_n (pq := 38) dX9_lineTwo_37 rfl rfl (J_bipush (pq := 40) dX9_lineTwo_38 rfl c_bipush_49 (J_icmp_eq (pq := 43) (tgt := 49) dX9_lineTwo_40 rfl rfl (fun c => ?_) (fun c => ?_)))
      · exact absurd c (by decide)
      · refine J_iload_n (pq := 44) dX9_lineTwo_43 rfl rfl (J_bipush (pq := 46) dX9_lineTwo_44 rfl c_bipush_57 (J_icmp_ne (pq := 49) (tgt := 60) dX9_lineTwo_46 rfl rfl (fun c => ?_) (fun c => ?_)))
        · exact J_weak (by simp [lsub]) rfl rfl (k60 h ⟨FlF.rf h, hp⟩)
        · exact absurd c (by decide)
  refine J_cut (σ := Unit) 49 (fun p => [some (.ref 38), some (.int (nI a)), some (.int (nI e)), some (.int (t (a + 1))), none]) (fun _ => []) (fun p => h) (fun _ => 2 ≤ e - a ∧ t a = 83 ∧ (t (a + 1) = 48 ∨ t (a + 1) = 49 ∨ t (a + 1) = 57)) (fun p hp => ?_) (fun k49 => ?_)
  · obtain ⟨hge, h83, hty⟩ := hp
    have h6 : (decide (2 ≤ e - a) && decide (t a = 83) && (decide (t (a + 1) = 48) || decide (t (a + 1) = 49) || decide (t (a + 1) = 57))) = true := by
      simp only [Bool.and_eq_true, Bool.or_eq_true, decide_eq_true_eq]
      exact ⟨⟨hge, h83⟩, or_assoc.mpr hty⟩
    refine J_aload_n (pq := 50) dX9_lineTwo_49 rfl rfl (J_iload_n (pq := 51) dX9_lineTwo_50 rfl rfl (J_iconst (pq := 52) dX9_lineTwo_51 rfl c_iconst_2 (J_iadd (pq := 53) dX9_lineTwo_52 rfl (J_iload_n (pq := 54) dX9_lineTwo_53 rfl rfl (?_)))))
    rw [show nI a + 2 = nI (a + 2) from by rw [show (2 : Int32) = nI 2 from rfl, nI_add]]
    refine J_virt (pq := 57) dX9_lineTwo_54 rfl (j_X9_bytes hK hR (show a + 2 ≤ e by omega) he) rfl tg_X9_bytes l_X9_148 vi_X9_bytes (hK.at rfl) ⟨by decide, rfl⟩ (Nat.le_of_ble_eq_true rfl) (Nat.zero_le _) (Nat.zero_le _) (Nat.le_of_ble_eq_true rfl) (fun v g hq => ?_)
    rw [ht] at hq
    obtain ⟨hLn, hq⟩ := hq
    have hF := hLn.fl
    have hKg : Kin g := hK.of2 hF.1
    have hRg : MR g := hR.of2 hF.1
    rcases hq with ⟨hev, hall, rfl, hln⟩ | ⟨hnot, rfl⟩
    · rw [show e - (a + 2) = e - a - 2 by omega] at hev hln ⊢
      refine J_goto (tgt := 61) dX9_lineTwo_57 rfl (J_istore (pq := 63) dX9_lineTwo_61 rfl (Nat.le_of_ble_eq_true rfl) (Nat.le_of_ble_eq_true rfl) rfl (J_iload (pq := 65) dX9_lineTwo_63 rfl rfl (J_iconst (pq := 66) dX9_lineTwo_65 rfl c_iconst_4 (J_icmp_lt (pq := 69) (tgt := 98) dX9_lineTwo_66 rfl rfl (fun c => ?_) (fun c => ?_)))))
      · rw [l5, nI_ltI (by omega) (by omega)] at c
        exact J_weak (by simp [lsub]) rfl rfl (k98 g ⟨hF, by unfold ok2; simp [show ¬ 4 ≤ (e - a - 2) / 2 by omega]⟩)
      · rw [l5, nI_ltI (by omega) (by omega)] at c
        have c5 := c
        have h0 : gi g 43 0 = nI (pv t (a + 2)) := hln 0 (by omega)
        have h1 : gi g 43 1 = nI (pv t (a + 4)) := hln 1 (by omega)
        have h2 : gi g 43 2 = nI (pv t (a + 6)) := hln 2 (by omega)
        have p0 : pv t (a + 2) < 256 := pv_all hall (k := 0) (by omega)
        have p1 : pv t (a + 4) < 256 := pv_all hall (k := 1) (by omega)
        have p2 : pv t (a + 6) < 256 := pv_all hall (k := 2) (by omega)
        have v0 : vp_in 0 200 := vinN l0 (by omega) (by omega)
        have v1 : vp_in 1 200 := vinN l1 (by omega) (by omega)
        have v2 : vp_in 2 200 := vinN (show (2 : Int32) = nI 2 from rfl) (by omega) (by omega)
        have i0 : ix 0 = 0 := rfl
        have i1 : ix 1 = 1 := rfl
        have i2 : ix 2 = 2 := rfl
        have l3 : (3 : Int32) = nI 3 := rfl
        refine J_iload (pq := 71) dX9_lineTwo_69 rfl rfl (J_aload_n (pq := 72) dX9_lineTwo_71 rfl rfl (J_getA (pq := 75) dX9_lineTwo_72 rfl f_X9_30 (by decide +kernel) (hKg.at rfl) (hRg _ _ rfl) (J_iconst (pq := 76) dX9_lineTwo_75 rfl c_iconst_0 (J_iald (pq := 77) dX9_lineTwo_76 rfl (hKg.at rfl) (by assumption) (J_iconst (pq := 78) dX9_lineTwo_77 rfl c_iconst_1 (J_iadd (pq := 79) dX9_lineTwo_78 rfl (J_icmp_ne (pq := 82) (tgt := 98) dX9_lineTwo_79 rfl rfl (fun c => ?_) (fun c => ?_))))))))
        · rw [i0, h0, l1, nI_add, nI_eq (by omega) (by omega)] at c
          exact J_weak (by simp [lsub]) rfl rfl (k98 g ⟨hF, by unfold ok2; simp [c]⟩)
        · rw [i0, h0, l1, nI_add, nI_eq (by omega) (by omega)] at c
          have cN := c
          refine J_cut (σ := Unit) 100 (fun p => [some (.ref 38), some (.int (nI a)), some (.int (nI e)), some (.int (t (a + 1))), some (.int (nI ((e - a - 2) / 2)))]) (fun _ => []) (fun p => g) (fun _ => ¬ (t (a + 1) = 57 ∧ ¬ pv t (a + 2) = 3)) (fun _ hp => ?_) (fun k100 => ?_)
          · have hok : ok2 t a e = true := by
              unfold ok2
              rw [h6]
              simp only [Bool.and_eq_true, decide_eq_true_eq, Bool.true_and]
              exact ⟨⟨⟨⟨hev, hall⟩, by omega⟩, cN⟩, hp⟩
            have hps : psum t (a + 2) ((e - a - 2) / 2) ≤ 255 * ((e - a - 2) / 2) := psum_le t (a + 2) _ (fun k hk => pv_all hall (by omega))
            refine J_aload_n (pq := 101) dX9_lineTwo_100 rfl rfl (J_iload (pq := 103) dX9_lineTwo_101 rfl rfl (J_virtF (pq := 106) dX9_lineTwo_103 rfl (j_X9_sumOf hKg hRg (by omega) hln (by omega)) rfl tg_X9_sumOf l_X9_152 vi_X9_sumOf (hKg.at rfl) ⟨by decide, rfl⟩ (Nat.le_of_ble_eq_true rfl) (Nat.zero_le _) (Nat.zero_le _) (Nat.le_of_ble_eq_true rfl) (J_sipush (pq := 109) dX9_lineTwo_106 rfl c_sipush_255 (J_icmp_eq (pq := 112) (tgt := 114) dX9_lineTwo_109 rfl rfl (fun c => ?_) (fun c => ?_)))))
            · rw [show (255 : Int32) = nI 255 from rfl, nI_eq (by omega) (by omega)] at c
              have cs := c
              refine J_aload_n (pq := 115) dX9_lineTwo_114 rfl rfl (J_iload_n (pq := 116) dX9_lineTwo_115 rfl rfl (J_bipush (pq := 118) dX9_lineTwo_116 rfl c_bipush_57 (J_icmp_ne (pq := 121) (tgt := 125) dX9_lineTwo_118 rfl rfl (fun c => ?_) (fun c => ?_))))
              · have ct := c
                refine J_iconst (pq := 126) dX9_lineTwo_125 rfl c_iconst_0 (J_putZ (pq := 129) dX9_lineTwo_126 rfl f_X9_155 (Or.inl rfl) (hKg.at rfl) (by first | exact bi_or _ | exact Or.inl rfl | exact Or.inr rfl | assumption) (J_iload_n (pq := 130) dX9_lineTwo_129 rfl rfl (J_bipush (pq := 132) dX9_lineTwo_130 rfl c_bipush_49 (J_icmp_ne (pq := 135) (tgt := 168) dX9_lineTwo_132 rfl rfl (fun c => ?_) (fun c => ?_)))))
                · have ct2 := c
                  refine J_iconst (pq := 169) dX9_lineTwo_168 rfl c_iconst_0 (J_iret dX9_lineTwo_169 rfl rfl ?_)
                  have hlr : lr2 t a e = (0, 1, 0, 0, 0) := by
                    unfold lr2
                    rw [if_pos hok, if_pos cs, if_neg ct, if_neg ct2]
                  rw [hlr]
                  refine ⟨rfl, hF.tr ⟨rfl, fun u v _ _ _ x4 => by rw [gi_si, if_neg (fun q => x4 ⟨q.1, Or.inr q.2⟩)]⟩, fun _ => ⟨?_, ?_, fun j hj => ?_⟩⟩
                  · rw [gi_si, if_pos ⟨rfl, rfl⟩]; rfl
                  · rw [gi_si, if_neg (by decide), hLn.2 38 8 (by decide)]
                    show gi h 38 8 = gi h 38 8 + nI 0
                    rw [nI_0]; simp
                  · rw [if_neg (by simp)]
                    exact mg_of (fun j => by rw [gi_si, if_neg (by simp)]; exact hLn.2 42 j (by decide)) (fun j => by rw [gi_si, if_neg (by simp)]; exact hLn.2 39 j (by decide)) (fun j => by rw [gi_si, if_neg (by simp)]; exact hLn.2 41 j (by decide)) j
                · have ct2 := c
                  have hlr : lr2 t a e = if 0 < pv t (a + 2) - 3 ∧ 256 < 256 * pv t (a + 4) + pv t (a + 6) + (pv t (a + 2) - 3) then (3, 0, 0, 0, 0) else (0, 0, 256 * pv t (a + 4) + pv t (a + 6), pv t (a + 2) - 3, a + 8) := by
                    unfold lr2
                    rw [if_pos hok, if_pos cs, if_neg ct, if_pos ct2]
                  have hga : (256 : Int32) * gi (si g 38 10 0) 43 (ix 1) + gi (si g 38 10 0) 43 (ix 2) = nI (256 * pv t (a + 4) + pv t (a + 6)) := by
                    rw [gi_si, gi_si, if_neg (by decide), if_neg (by decide), i1, i2, h1, h2, show (256 : Int32) = nI 256 from rfl, pk_mul, nI_add]
                  have hgn : gi (si g 38 10 0) 43 (ix 0) - 3 = nI (pv t (a + 2) - 3) := by rw [gi_si, if_neg (by decide), i0, h0, l3, pk_sub (by omega)]
                  refine J_aload_n (pq := 136) dX9_lineTwo_135 rfl rfl (J_sipush (pq := 139) dX9_lineTwo_136 rfl c_sipush_256 (J_aload_n (pq := 140) dX9_lineTwo_139 rfl rfl (J_getA (pq := 143) dX9_lineTwo_140 rfl f_X9_30 (by decide +kernel) (hKg.at rfl) (hRg _ _ rfl) (J_iconst (pq := 144) dX9_lineTwo_143 rfl c_iconst_1 (J_iald (pq := 145) dX9_lineTwo_144 rfl (hKg.at rfl) (by assumption) (J_imul (pq := 146) dX9_lineTwo_145 rfl (J_aload_n (pq := 147) dX9_lineTwo_146 rfl rfl (J_getA (pq := 150) dX9_lineTwo_147 rfl f_X9_30 (by decide +kernel) (hKg.at rfl) (hRg _ _ rfl) (J_iconst (pq := 151) dX9_lineTwo_150 rfl c_iconst_2 (J_iald (pq := 152) dX9_lineTwo_151 rfl (hKg.at rfl) (by assumption) (J_iadd (pq := 153) dX9_lineTwo_152 rfl (J_iconst (pq := 154) dX9_lineTwo_153 rfl c_iconst_3 (J_aload_n (pq := 155) dX9_lineTwo_154 rfl rfl (J_getA (pq := 158) dX9_lineTwo_155 rfl f_X9_30 (by decide +kernel) (hKg.at rfl) (hRg _ _ rfl) (J_iconst (pq := 159) dX9_lineTwo_158 rfl c_iconst_0 (J_iald (pq := 160) dX9_lineTwo_159 rfl (hKg.at rfl) (by assumption) (J_iconst (pq := 161) dX9_lineTwo_160 rfl c_iconst_3 (J_isub (pq := 162) dX9_lineTwo_161 rfl (?_)))))))))))))))))))
                  rw [hga, hgn]
                  refine J_virtF (pq := 165) dX9_lineTwo_162 rfl (j_X9_data (h := si g 38 10 0) (D := 3) hKg hRg (by omega) (by omega)) rfl tg_X9_data l_X9_159 vi_X9_data (hKg.at rfl) ⟨by decide, rfl⟩ (Nat.le_of_ble_eq_true rfl) (Nat.zero_le _) (Nat.zero_le _) (Nat.le_of_ble_eq_true rfl) (J_goto (tgt := 169) dX9_lineTwo_165 rfl (J_iret dX9_lineTwo_169 rfl rfl ?_))
                  have hF0 : FlF h (si g 38 10 0) := hF.tr ⟨rfl, fun u v _ _ _ x4 => by rw [gi_si, if_neg (fun q => x4 ⟨q.1, Or.inr q.2⟩)]⟩
                  rw [hlr]
                  by_cases hov : 0 < pv t (a + 2) - 3 ∧ 256 < 256 * pv t (a + 4) + pv t (a + 6) + (pv t (a + 2) - 3)
                  · rw [if_pos hov, if_pos hov, if_pos hov]
                    exact ⟨rfl, hF0, fun q => by simp at q⟩
                  · rw [if_neg hov, if_neg hov, if_neg hov]
                    refine ⟨rfl, hF0.tr (putN_F _ _ _ _), fun _ => ⟨?_, ?_, fun j hj => ?_⟩⟩
                    · rw [putN_e, gi_si, if_pos ⟨rfl, rfl⟩]; rfl
                    · rw [putN_c, gi_si, if_neg (by decide), hLn.2 38 8 (by decide)]
                    · rw [putN_m]
                      have hmg : mg (si g 38 10 0) j = mg h j := mg_of (fun j => by rw [gi_si, if_neg (by simp)]; exact hLn.2 42 j (by decide)) (fun j => by rw [gi_si, if_neg (by simp)]; exact hLn.2 39 j (by decide)) (fun j => by rw [gi_si, if_neg (by simp)]; exact hLn.2 41 j (by decide)) j
                      rw [hmg]
                      by_cases hcj : 256 * pv t (a + 4) + pv t (a + 6) ≤ j ∧ j < 256 * pv t (a + 4) + pv t (a + 6) + (pv t (a + 2) - 3)
                      · rw [if_pos hcj, if_pos hcj, gi_si, if_neg (by simp), hln _ (by omega)]
                        exact congrArg (fun z => nI (pv t z)) (by simp only; omega)
                      · rw [if_neg hcj, if_neg hcj]
              · have ct := c
                refine J_iconst (pq := 122) dX9_lineTwo_121 rfl c_iconst_1 (J_goto (tgt := 126) dX9_lineTwo_122 rfl (J_putZ (pq := 129) dX9_lineTwo_126 rfl f_X9_155 (Or.inl rfl) (hKg.at rfl) (by first | exact bi_or _ | exact Or.inl rfl | exact Or.inr rfl | assumption) (J_iload_n (pq := 130) dX9_lineTwo_129 rfl rfl (J_bipush (pq := 132) dX9_lineTwo_130 rfl c_bipush_49 (J_icmp_ne (pq := 135) (tgt := 168) dX9_lineTwo_132 rfl rfl (fun c => ?_) (fun c => ?_))))))
                · refine J_iconst (pq := 169) dX9_lineTwo_168 rfl c_iconst_0 (J_iret dX9_lineTwo_169 rfl rfl ?_)
                  have hlr : lr2 t a e = (0, 2, 0, 0, 0) := by
                    unfold lr2
                    rw [if_pos hok, if_pos cs, if_pos ct]
                  rw [hlr]
                  refine ⟨rfl, hF.tr ⟨rfl, fun u v _ _ _ x4 => by rw [gi_si, if_neg (fun q => x4 ⟨q.1, Or.inr q.2⟩)]⟩, fun _ => ⟨?_, ?_, fun j hj => ?_⟩⟩
                  · rw [gi_si, if_pos ⟨rfl, rfl⟩]; rfl
                  · rw [gi_si, if_neg (by decide), hLn.2 38 8 (by decide)]
                    show gi h 38 8 = gi h 38 8 + nI 0
                    rw [nI_0]; simp
                  · rw [if_neg (by simp)]
                    exact mg_of (fun j => by rw [gi_si, if_neg (by simp)]; exact hLn.2 42 j (by decide)) (fun j => by rw [gi_si, if_neg (by simp)]; exact hLn.2 39 j (by decide)) (fun j => by rw [gi_si, if_neg (by simp)]; exact hLn.2 41 j (by decide)) j
                · rw [ct] at c; exact absurd c (by decide)
            · rw [show (255 : Int32) = nI 255 from rfl, nI_eq (by omega) (by omega)] at c
              refine J_iconst (pq := 113) dX9_lineTwo_112 rfl c_iconst_2 (J_iret dX9_lineTwo_113 rfl rfl ?_)
              have hlr : lr2 t a e = (2, 0, 0, 0, 0) := by
                unfold lr2
                rw [if_pos hok, if_neg c]
              rw [hlr]
              exact ⟨rfl, hF, fun q => by simp at q⟩
          refine J_iload_n (pq := 83) dX9_lineTwo_82 rfl rfl (J_bipush (pq := 85) dX9_lineTwo_83 rfl c_bipush_57 (J_icmp_ne (pq := 88) (tgt := 100) dX9_lineTwo_85 rfl rfl (fun c => ?_) (fun c => ?_)))
          · exact J_weak (by simp [lsub]) rfl rfl (k100 () (fun q => c q.1))
          · have ct := c
            refine J_aload_n (pq := 89) dX9_lineTwo_88 rfl rfl (J_getA (pq := 92) dX9_lineTwo_89 rfl f_X9_30 (by decide +kernel) (hKg.at rfl) (hRg _ _ rfl) (J_iconst (pq := 93) dX9_lineTwo_92 rfl c_iconst_0 (J_iald (pq := 94) dX9_lineTwo_93 rfl (hKg.at rfl) (by assumption) (J_iconst (pq := 95) dX9_lineTwo_94 rfl c_iconst_3 (J_icmp_eq (pq := 98) (tgt := 100) dX9_lineTwo_95 rfl rfl (fun c => ?_) (fun c => ?_))))))
            · rw [i0, h0, l3, nI_eq (by omega) (by omega)] at c
              exact J_weak (by simp [lsub]) rfl rfl (k100 () (fun q => q.2 c))
            · rw [i0, h0, l3, nI_eq (by omega) (by omega)] at c
              exact J_weak (by simp [lsub]) rfl rfl (k98 g ⟨hF, by unfold ok2; simp [ct, c]⟩)
    · refine J_goto (tgt := 61) dX9_lineTwo_57 rfl (J_istore (pq := 63) dX9_lineTwo_61 rfl (Nat.le_of_ble_eq_true rfl) (Nat.le_of_ble_eq_true rfl) rfl (J_iload (pq := 65) dX9_lineTwo_63 rfl rfl (J_iconst (pq := 66) dX9_lineTwo_65 rfl c_iconst_4 (J_icmp_lt (pq := 69) (tgt := 98) dX9_lineTwo_66 rfl rfl (fun c => ?_) (fun c => ?_)))))
      · refine J_weak (by simp [lsub]) rfl rfl (k98 g ⟨hF, ?_⟩)
        rw [show e - (a + 2) = e - a - 2 by omega] at hnot
        cases h1 : ok2 t a e with
        | false => rfl
        | true =>
          unfold ok2 at h1
          simp only [Bool.and_eq_true, decide_eq_true_eq] at h1
          exact absurd ⟨h1.1.1.1.1.2, h1.1.1.1.2⟩ hnot
      · exact absurd (by decide) c
  refine J_iload_n (pq := 1) dX9_lineTwo_0 rfl rfl (J_iload_n (pq := 2) dX9_lineTwo_1 rfl rfl (J_isub (pq := 3) dX9_lineTwo_2 rfl (J_iconst (pq := 4) dX9_lineTwo_3 rfl c_iconst_1 (J_icmp_le (pq := 7) (tgt := 29) dX9_lineTwo_4 rfl rfl (fun c => ?_) (fun c => ?_)))))
  · rw [pk_sub (by omega), l1, nI_leI (by omega) (by omega)] at c
    exact k29 () (by unfold ok2; simp [show ¬ 2 ≤ e - a by omega])
  · rw [pk_sub (by omega), l1, nI_leI (by omega) (by omega)] at c
    have c2 := c
    refine J_aload_n (pq := 8) dX9_lineTwo_7 rfl rfl (J_getA (pq := 11) dX9_lineTwo_8 rfl f_X9_13 (by decide +kernel) (hK.at rfl) (hR _ _ rfl) (J_iload_n (pq := 12) dX9_lineTwo_11 rfl rfl (J_iald (pq := 13) dX9_lineTwo_12 rfl (hK.at rfl) (by assumption) (J_bipush (pq := 15) dX9_lineTwo_13 rfl c_bipush_83 (J_icmp_ne (pq := 18) (tgt := 29) dX9_lineTwo_15 rfl rfl (fun c => ?_) (fun c => ?_))))))
    · rw [hx0, ht] at c
      exact k29 () (by unfold ok2; simp [c])
    · rw [hx0, ht] at c
      have c83 := c
      have hb1 : vp_in (nI a + 1) 400 := vinN (nI_1 a) (by omega) (by omega)
      have hx1 : ix (nI a + 1) = a + 1 := by rw [nI_1, ixn (by omega)]
      refine J_aload_n (pq := 19) dX9_lineTwo_18 rfl rfl (J_getA (pq := 22) dX9_lineTwo_19 rfl f_X9_13 (by decide +kernel) (hK.at rfl) (hR _ _ rfl) (J_iload_n (pq := 23) dX9_lineTwo_22 rfl rfl (J_iconst (pq := 24) dX9_lineTwo_23 rfl c_iconst_1 (J_iadd (pq := 25) dX9_lineTwo_24 rfl (J_iald (pq := 26) dX9_lineTwo_25 rfl (hK.at rfl) (by assumption) (J_goto (tgt := 30) dX9_lineTwo_26 rfl (J_istore_m 3 (pq := 31) dX9_lineTwo_30 rfl rfl (Nat.le_of_ble_eq_true rfl) (Nat.le_of_ble_eq_true rfl) rfl (J_iload_n (pq := 32) dX9_lineTwo_31 rfl rfl (J_bipush (pq := 34) dX9_lineTwo_32 rfl c_bipush_48 (J_icmp_eq (pq := 37) (tgt := 49) dX9_lineTwo_34 rfl rfl (fun c => ?_) (fun c => ?_)))))))))))
      · rw [hx1, ht] at c
        exact J_weak (by simp [lsub, hx1, ht]) rfl rfl (k49 () ⟨by omega, c83, Or.inl c⟩)
      · rw [hx1, ht] at c
        have d1 := c
        refine J_iload_n (pq := 38) dX9_lineTwo_37 rfl rfl (J_bipush (pq := 40) dX9_lineTwo_38 rfl c_bipush_49 (J_icmp_eq (pq := 43) (tgt := 49) dX9_lineTwo_40 rfl rfl (fun c => ?_) (fun c => ?_)))
        · rw [hx1, ht] at c
          exact J_weak (by simp [lsub, hx1, ht]) rfl rfl (k49 () ⟨by omega, c83, Or.inr (Or.inl c)⟩)
        · rw [hx1, ht] at c
          have d2 := c
          refine J_iload_n (pq := 44) dX9_lineTwo_43 rfl rfl (J_bipush (pq := 46) dX9_lineTwo_44 rfl c_bipush_57 (J_icmp_ne (pq := 49) (tgt := 60) dX9_lineTwo_46 rfl rfl (fun c => ?_) (fun c => ?_)))
          · rw [hx1, ht] at c
            exact J_weak (by simp [lsub]) rfl rfl (k60 h ⟨FlF.rf h, by unfold ok2; simp [d1, d2, c]⟩)
          · rw [hx1, ht] at c
            exact J_weak (by simp [lsub, hx1, ht]) rfl rfl (k49 () ⟨by omega, c83, Or.inr (Or.inr c)⟩)
end F3
