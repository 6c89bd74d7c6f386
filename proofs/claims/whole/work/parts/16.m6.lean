-- the reference: counting what is wrong, asking a chip
def mWr (h : JH) (i s f w : Nat) : Nat → Nat
  | 0 => 0
  | k + 1 => mWr h i s f w k + (if gi h 54 (64 * i + mAdr h i s k) = gi h 39 (f + w * k) ∧ gi h 55 (64 * i + mAdr h i s k) = gi h 39 (f + w * k) then 0 else 1)
theorem mWr_le (h : JH) (i s f w : Nat) : ∀ k, mWr h i s f w k ≤ k
  | 0 => Nat.le_refl _
  | k + 1 => by have := mWr_le h i s f w k; simp only [mWr]; split <;> omega
theorem fw_le {f w n : Nat} (hf : f ≤ 255) (hn : n ≤ (255 - f) / w + 1) {k : Nat} (hk : k < n) : f + w * k ≤ 255 := by
  have h1 : k ≤ (255 - f) / w := by omega
  have h2 : w * k ≤ w * ((255 - f) / w) := Nat.mul_le_mul_left w h1
  have h3 : w * ((255 - f) / w) ≤ 255 - f := Nat.mul_div_le _ _
  omega
theorem nI_0a (k : Nat) : nI k + 0 = nI k := by rw [show (0 : Int32) = nI 0 from rfl, nI_add]; rfl
/-- chipOf of the reference, for chip i of s blocks -/
def mChipOf (h : JH) (i s : Nat) (w : Int32) : Int32 :=
  if 500 ≤ w then (if w - 500 < nI (8 * goodc (mBad h i) s) then nI (mAdr h i s (ix (w - 500))) else -1)
  else if 100 ≤ w then (if gi h 44 i ≤ w - w / 100 * 100 then -1 else if w < 200 then gi h 54 (64 * i + ix (w - w / 100 * 100)) else if w < 300 then gi h 55 (64 * i + ix (w - w / 100 * 100)) else if w < 400 then gi h 56 (64 * i + ix (w - w / 100 * 100)) else gi h 57 (64 * i + ix (w - w / 100 * 100)))
  else if w = 0 then gi h 44 i else if w = 1 then nI (8 * goodc (mBad h i) s) else if w = 2 then lkf (mLack h i) 28 0 else if w = 3 then gi h 52 i else if w = 4 then (gl h 53 i).toInt32 else -1
section M6
variable {x : JX} {h : JH} {nc : Nat} {s : Nat → Nat}
theorem j_X9_wrong {i f w : Nat} (hW : MW h nc s) (hi : i < nc) (hf : f ≤ 255) (hw : 1 ≤ w ∧ w ≤ 8) : JF x yX9_wrong cX9_wrong 6 (some .int) 3 0 0 [.ref 38, .int (nI i), .int (nI f), .int (nI w)] h (some (.int (nI (mWr h i (s i) f w (min (8 * goodc (mBad h i) (s i)) ((255 - f) / w + 1)))))) h := by
  have hW0 := hW
  obtain ⟨hK, hR, hc, hc4, hs⟩ := hW
  have hgl := goodc_le (mBad h i) (s i)
  have hs3 := (hs i hi).2.2
  have hlast := j_X9_last (x := x) hW0 hi hf hw
  generalize hn : min (8 * goodc (mBad h i) (s i)) ((255 - f) / w + 1) = n
  have hn1 : n ≤ 8 * goodc (mBad h i) (s i) := by rw [← hn]; exact Nat.min_le_left _ _
  have hn2 : n ≤ (255 - f) / w + 1 := by rw [← hn]; exact Nat.min_le_right _ _
  rw [hn] at hlast
  refine JM_of [some (.ref 38), some (.int (nI i)), some (.int (nI f)), some (.int (nI w)), none, none] (by decide) (Nat.le_of_ble_eq_true rfl) rfl ?_
  have hchip : isin (nI i) 0 (gi h 38 12 - 1) = true := by rw [hc, isinN (by omega)]; exact ⟨i, hi, rfl⟩
  have hpart : (isin (nI f) 0 255 && isin (nI w) 1 8) = true := by
    rw [Bool.and_eq_true, isin_t, isin_t, nI_toInt (by omega), nI_toInt (by omega)]
    simp; omega
  refine J_aload_n (pq := 1) dX9_wrong_0 rfl rfl (J_iload_n (pq := 2) dX9_wrong_1 rfl rfl (J_virtF (pq := 5) dX9_wrong_2 rfl (j_X9_isChip hK) rfl tg_X9_isChip l_X9_199 vi_X9_isChip (hK.at rfl) ⟨by decide, rfl⟩ (Nat.le_of_ble_eq_true rfl) (Nat.zero_le _) (Nat.zero_le _) (Nat.le_of_ble_eq_true rfl) (J_if_eq (pq := 8) (tgt := 16) dX9_wrong_5 rfl rfl (fun c => ?_) (fun c => ?_))))
  · rw [hchip] at c; exact absurd c (by decide)
  · refine J_iload_n (pq := 9) dX9_wrong_8 rfl rfl (J_iload_n (pq := 10) dX9_wrong_9 rfl rfl (J_statF (pq := 13) dX9_wrong_10 rfl (j_X9_isPart) rfl tg_X9_isPart l_X9_317 st_X9_isPart (Nat.le_of_ble_eq_true rfl) (Nat.zero_le _) (Nat.zero_le _) (Nat.le_of_ble_eq_true rfl) (J_if_ne (pq := 16) (tgt := 18) dX9_wrong_13 rfl rfl (fun c => ?_) (fun c => ?_))))
    · refine J_iconst (pq := 19) dX9_wrong_18 rfl c_iconst_0 (J_istore (pq := 21) dX9_wrong_19 rfl (Nat.le_of_ble_eq_true rfl) (Nat.le_of_ble_eq_true rfl) rfl (J_iconst (pq := 22) dX9_wrong_21 rfl c_iconst_0 (J_istore (pq := 24) dX9_wrong_22 rfl (Nat.le_of_ble_eq_true rfl) (Nat.le_of_ble_eq_true rfl) rfl (?_))))
      refine J_loop (σ := Nat) (fun k => [some (.ref 38), some (.int (nI i)), some (.int (nI f)), some (.int (nI w)), some (.int (nI (mWr h i (s i) f w k))), some (.int (nI k))]) (fun _ => []) (fun _ => h) (fun k => k ≤ n) (fun k => n - k) 0 rfl rfl rfl (by omega) (fun k hp ih => ?_)
      have hwl := mWr_le h i (s i) f w k
      refine J_iload (pq := 26) dX9_wrong_24 rfl rfl (J_aload_n (pq := 27) dX9_wrong_26 rfl rfl (J_iload_n (pq := 28) dX9_wrong_27 rfl rfl (J_iload_n (pq := 29) dX9_wrong_28 rfl rfl (J_iload_n (pq := 30) dX9_wrong_29 rfl rfl (J_virtF (pq := 33) dX9_wrong_30 rfl (hlast) rfl tg_X9_last l_X9_314 vi_X9_last (hK.at rfl) ⟨by decide, rfl⟩ (Nat.le_of_ble_eq_true rfl) (Nat.zero_le _) (Nat.zero_le _) (Nat.le_of_ble_eq_true rfl) (J_icmp_ge (pq := 36) (tgt := 78) dX9_wrong_33 rfl rfl (fun c => ?_) (fun c => ?_)))))))
      · rw [nI_leI (by omega) (by omega)] at c
        refine J_iload (pq := 80) dX9_wrong_78 rfl rfl (J_iret dX9_wrong_80 rfl rfl ?_)
        have : k = n := by omega
        subst this
        exact ⟨rfl, rfl⟩
      · rw [nI_leI (by omega) (by omega)] at c
        have hkl : k < 8 * goodc (mBad h i) (s i) := by omega
        have hfwk := fw_le hf hn2 (show k < n by omega)
        have hal := mAdr_lt hkl hs3
        have hb1 : vp_in (nI f + nI w * nI k) 256 := vinN (im_n f w k) (by omega) (by omega)
        have hx1 : ix (nI f + nI w * nI k) = f + w * k := by rw [im_n, ixn (by omega)]
        refine J_iload (pq := 38) dX9_wrong_36 rfl rfl (J_aload_n (pq := 39) dX9_wrong_38 rfl rfl (J_iload_n (pq := 40) dX9_wrong_39 rfl rfl (J_aload_n (pq := 41) dX9_wrong_40 rfl rfl (J_iload_n (pq := 42) dX9_wrong_41 rfl rfl (J_iload (pq := 44) dX9_wrong_42 rfl rfl (J_virtF (pq := 47) dX9_wrong_44 rfl (j_X9_addressOf hW0 hi hkl) rfl tg_X9_addressOf l_X9_210 vi_X9_addressOf (hK.at rfl) ⟨by decide, rfl⟩ (Nat.le_of_ble_eq_true rfl) (Nat.zero_le _) (Nat.zero_le _) (Nat.le_of_ble_eq_true rfl) (J_aload_n (pq := 48) dX9_wrong_47 rfl rfl (J_getA (pq := 51) dX9_wrong_48 rfl f_X9_7 (by decide +kernel) (hK.at rfl) (hR _ _ rfl) (J_iload_n (pq := 52) dX9_wrong_51 rfl rfl (J_iload_n (pq := 53) dX9_wrong_52 rfl rfl (J_iload (pq := 55) dX9_wrong_53 rfl rfl (J_imul (pq := 56) dX9_wrong_55 rfl (J_iadd (pq := 57) dX9_wrong_56 rfl (J_iald (pq := 58) dX9_wrong_57 rfl (hK.at rfl) (by assumption) (J_virtF (pq := 61) dX9_wrong_58 rfl (j_X9_isWrong (a := mAdr h i (s i) k) hK hR (by omega)) rfl tg_X9_isWrong l_X9_330 vi_X9_isWrong (hK.at rfl) ⟨by decide, rfl⟩ (Nat.le_of_ble_eq_true rfl) (Nat.zero_le _) (Nat.zero_le _) (Nat.le_of_ble_eq_true rfl) (J_if_eq (pq := 64) (tgt := 68) dX9_wrong_61 rfl rfl (fun c => ?_) (fun c => ?_)))))))))))))))))
        · rw [bi_0, hx1] at c
          refine J_iconst (pq := 69) dX9_wrong_68 rfl c_iconst_0 (J_iadd (pq := 70) dX9_wrong_69 rfl (J_istore (pq := 72) dX9_wrong_70 rfl (Nat.le_of_ble_eq_true rfl) (Nat.le_of_ble_eq_true rfl) rfl (J_iinc (pq := 75) dX9_wrong_72 rfl c_iconst_1 rfl (Nat.le_of_ble_eq_true rfl) rfl (J_goto (tgt := 24) dX9_wrong_75 rfl (?_)))))
          refine J_eq ?_ rfl rfl (ih (k + 1) (by omega) (by omega))
          simp at c
          simp [nI_1, mWr, c, nI_0a]
        · rw [bi_0, hx1, Bool.not_eq_false] at c
          refine J_iconst (pq := 65) dX9_wrong_64 rfl c_iconst_1 (J_goto (tgt := 69) dX9_wrong_65 rfl (J_iadd (pq := 70) dX9_wrong_69 rfl (J_istore (pq := 72) dX9_wrong_70 rfl (Nat.le_of_ble_eq_true rfl) (Nat.le_of_ble_eq_true rfl) rfl (J_iinc (pq := 75) dX9_wrong_72 rfl c_iconst_1 rfl (Nat.le_of_ble_eq_true rfl) rfl (J_goto (tgt := 24) dX9_wrong_75 rfl (?_))))))
          refine J_eq ?_ rfl rfl (ih (k + 1) (by omega) (by omega))
          have c' : ¬ (gi h 54 (64 * i + mAdr h i (s i) k) = gi h 39 (f + w * k) ∧ gi h 55 (64 * i + mAdr h i (s i) k) = gi h 39 (f + w * k)) := by
            rw [Bool.or_eq_true, decide_eq_true_eq, decide_eq_true_eq] at c
            rintro ⟨a, b⟩
            exact c.elim (fun q => q a) (fun q => q b)
          simp [nI_1, mWr, c']
    · rw [hpart] at c; exact absurd c (by decide)
theorem j_X9_chipOf {i : Nat} {w : Int32} (hW : MW h nc s) (hi : i < nc) (hw : 0 ≤ w) (hmd : (gl h 53 i).toInt ≤ 2147483647) : JF x yX9_chipOf cX9_chipOf 5 (some .int) 2 0 0 [.ref 38, .int (nI i), .int w] h (some (.int (mChipOf h i (s i) w))) h := by
  have hW0 := hW
  obtain ⟨hK, hR, hc, hc4, hs⟩ := hW
  obtain ⟨hs1, hs2, hs3⟩ := hs i hi
  have hgl := goodc_le (mBad h i) (s i)
  have hchip : isin (nI i) 0 (gi h 38 12 - 1) = true := by rw [hc, isinN (by omega)]; exact ⟨i, hi, rfl⟩
  have hb4 : vp_in (nI i) 4 := vp_in_nI (by omega) (by omega)
  have hx4 : ix (nI i) = i := ixn (by omega)
  obtain ⟨n, hn31, rfl⟩ := nI_of (i_nlt.mpr hw)
  refine JM_of [some (.ref 38), some (.int (nI i)), some (.int (nI n)), none, none] (by decide) (Nat.le_of_ble_eq_true rfl) rfl ?_
  have l500 : (500 : Int32) = nI 500 := rfl
  have l100 : (100 : Int32) = nI 100 := rfl
  have l200 : (200 : Int32) = nI 200 := rfl
  have l300 : (300 : Int32) = nI 300 := rfl
  have l400 : (400 : Int32) = nI 400 := rfl
  refine J_aload_n (pq := 1) dX9_chipOf_0 rfl rfl (J_iload_n (pq := 2) dX9_chipOf_1 rfl rfl (J_virtF (pq := 5) dX9_chipOf_2 rfl (j_X9_isChip hK) rfl tg_X9_isChip l_X9_199 vi_X9_isChip (hK.at rfl) ⟨by decide, rfl⟩ (Nat.le_of_ble_eq_true rfl) (Nat.zero_le _) (Nat.zero_le _) (Nat.le_of_ble_eq_true rfl) (J_if_ne (pq := 8) (tgt := 10) dX9_chipOf_5 rfl rfl (fun c => ?_) (fun c => ?_))))
  · refine J_iload_n (pq := 11) dX9_chipOf_10 rfl rfl (J_sipush (pq := 14) dX9_chipOf_11 rfl c_sipush_500 (J_icmp_lt (pq := 17) (tgt := 45) dX9_chipOf_14 rfl rfl (fun c => ?_) (fun c => ?_)))
    · have c1 := c
      rw [l500, nI_ltI hn31 (by omega)] at c
      refine J_iload_n (pq := 46) dX9_chipOf_45 rfl rfl (J_bipush (pq := 48) dX9_chipOf_46 rfl c_bipush_100 (J_icmp_lt (pq := 51) (tgt := 135) dX9_chipOf_48 rfl rfl (fun c => ?_) (fun c => ?_)))
      · have c2 := c
        rw [l100, nI_ltI hn31 (by omega)] at c
        refine J_iload_n (pq := 136) dX9_chipOf_135 rfl rfl (?_)
        have hm : mChipOf h i (s i) (nI n) = if n = 0 then gi h 44 i else if n = 1 then nI (8 * goodc (mBad h i) (s i)) else if n = 2 then lkf (mLack h i) 28 0 else if n = 3 then gi h 52 i else if n = 4 then (gl h 53 i).toInt32 else -1 := by
          unfold mChipOf
          rw [if_neg (i_nle.mpr c1), if_neg (i_nle.mpr c2)]
          simp only [show (0 : Int32) = nI 0 from rfl, show (1 : Int32) = nI 1 from rfl, show (2 : Int32) = nI 2 from rfl, show (3 : Int32) = nI 3 from rfl, show (4 : Int32) = nI 4 from rfl, nI_eq hn31 (show 0 < 2 ^ 31 by omega), nI_eq hn31 (show 1 < 2 ^ 31 by omega), nI_eq hn31 (show 2 < 2 ^ 31 by omega), nI_eq hn31 (show 3 < 2 ^ 31 by omega), nI_eq hn31 (show 4 < 2 ^ 31 by omega)]
        rw [hm]
        have tn : (nI n).toInt = n := nI_toInt hn31
        by_cases h5 : n < 5
        · have hcase : n = 0 ∨ n = 1 ∨ n = 2 ∨ n = 3 ∨ n = 4 := by omega
          rcases hcase with rfl | rfl | rfl | rfl | rfl
          · refine J_tabIn (tgt := 172) dX9_chipOf_136 (by decide) (by decide) rfl rfl ?_
            refine J_aload_n (pq := 173) dX9_chipOf_172 rfl rfl (J_getA (pq := 176) dX9_chipOf_173 rfl f_X9_33 (by decide +kernel) (hK.at rfl) (hR _ _ rfl) (J_iload_n (pq := 177) dX9_chipOf_176 rfl rfl (J_iald (pq := 178) dX9_chipOf_177 rfl (hK.at rfl) (by assumption) (J_iret dX9_chipOf_178 rfl rfl ?_))))
            exact ⟨by rw [hx4]; rfl, rfl⟩
          · refine J_tabIn (tgt := 179) dX9_chipOf_136 (by decide) (by decide) rfl rfl ?_
            refine J_aload_n (pq := 180) dX9_chipOf_179 rfl rfl (J_iload_n (pq := 181) dX9_chipOf_180 rfl rfl (J_virtF (pq := 184) dX9_chipOf_181 rfl (j_X9_logicals hW0 hi) rfl tg_X9_logicals l_X9_207 vi_X9_logicals (hK.at rfl) ⟨by decide, rfl⟩ (Nat.le_of_ble_eq_true rfl) (Nat.zero_le _) (Nat.zero_le _) (Nat.le_of_ble_eq_true rfl) (J_iret dX9_chipOf_184 rfl rfl ?_)))
            exact ⟨rfl, rfl⟩
          · refine J_tabIn (tgt := 185) dX9_chipOf_136 (by decide) (by decide) rfl rfl ?_
            refine J_aload_n (pq := 186) dX9_chipOf_185 rfl rfl (J_iload_n (pq := 187) dX9_chipOf_186 rfl rfl (J_virtF (pq := 190) dX9_chipOf_187 rfl (j_X9_lacking hK hR (by omega)) rfl tg_X9_lacking l_X9_213 vi_X9_lacking (hK.at rfl) ⟨by decide, rfl⟩ (Nat.le_of_ble_eq_true rfl) (Nat.zero_le _) (Nat.zero_le _) (Nat.le_of_ble_eq_true rfl) (J_iret dX9_chipOf_190 rfl rfl ?_)))
            exact ⟨rfl, rfl⟩
          · refine J_tabIn (tgt := 191) dX9_chipOf_136 (by decide) (by decide) rfl rfl ?_
            refine J_aload_n (pq := 192) dX9_chipOf_191 rfl rfl (J_getA (pq := 195) dX9_chipOf_192 rfl f_X9_57 (by decide +kernel) (hK.at rfl) (hR _ _ rfl) (J_iload_n (pq := 196) dX9_chipOf_195 rfl rfl (J_iald (pq := 197) dX9_chipOf_196 rfl (hK.at rfl) (by assumption) (J_iret dX9_chipOf_197 rfl rfl ?_))))
            exact ⟨by rw [hx4]; rfl, rfl⟩
          · refine J_tabIn (tgt := 198) dX9_chipOf_136 (by decide) (by decide) rfl rfl ?_
            have hcmp : lg_cmp (gl h 53 (ix (nI i))) 2147483647 ≤ 0 := by
              rw [hx4]
              unfold lg_cmp
              have : ¬ (2147483647 : Int64) < gl h 53 i := by
                rw [Int64.lt_iff_toInt_lt]; simp; omega
              simp [this]
              split <;> decide
            refine J_aload_n (pq := 199) dX9_chipOf_198 rfl rfl (J_getA (pq := 202) dX9_chipOf_199 rfl f_X9_60 (by decide +kernel) (hK.at rfl) (hR _ _ rfl) (J_iload_n (pq := 203) dX9_chipOf_202 rfl rfl (J_lald (pq := 204) dX9_chipOf_203 rfl (hK.at rfl) (by assumption) (J_ldc2 (pq := 207) dX9_chipOf_204 rfl k_X9_216 (J_lcmp (pq := 208) dX9_chipOf_207 rfl (J_if_le (pq := 211) (tgt := 216) dX9_chipOf_208 rfl rfl (fun c => ?_) (fun c => ?_)))))))
            · refine J_aload_n (pq := 217) dX9_chipOf_216 rfl rfl (J_getA (pq := 220) dX9_chipOf_217 rfl f_X9_60 (by decide +kernel) (hK.at rfl) (hR _ _ rfl) (J_iload_n (pq := 221) dX9_chipOf_220 rfl rfl (J_lald (pq := 222) dX9_chipOf_221 rfl (hK.at rfl) (by assumption) (J_l2i (pq := 223) dX9_chipOf_222 rfl (J_iret dX9_chipOf_223 rfl rfl ?_)))))
              exact ⟨by rw [hx4]; rfl, rfl⟩
            · exact absurd hcmp c
        · refine J_tabOut (tgt := 224) dX9_chipOf_136 (Or.inr (by rw [tn]; omega)) rfl ?_
          refine J_iconst (pq := 225) dX9_chipOf_224 rfl c_iconst_m1 (J_iret dX9_chipOf_225 rfl rfl ?_)
          refine ⟨?_, rfl⟩
          rw [if_neg (by omega), if_neg (by omega), if_neg (by omega), if_neg (by omega), if_neg (by omega)]
      · have c2 := c
        rw [l100, nI_ltI hn31 (by omega)] at c
        have hrem : nI n - nI n / 100 * 100 = nI (n % 100) := by rw [l100, pk_rem hn31 (by omega) (by omega)]
        have hm : mChipOf h i (s i) (nI n) = (if gi h 44 i ≤ nI (n % 100) then -1 else if nI n < 200 then gi h 54 (64 * i + n % 100) else if nI n < 300 then gi h 55 (64 * i + n % 100) else if nI n < 400 then gi h 56 (64 * i + n % 100) else gi h 57 (64 * i + n % 100)) := by
          unfold mChipOf
          rw [if_neg (i_nle.mpr c1), if_pos (i_nlt.mp c2), hrem, ixn (by omega)]
        rw [hm]
        refine J_iload_n (pq := 52) dX9_chipOf_51 rfl rfl (J_bipush (pq := 54) dX9_chipOf_52 rfl c_bipush_100 (J_irem (pq := 55) dX9_chipOf_54 rfl (by decide) (J_istore_m 3 (pq := 56) dX9_chipOf_55 rfl rfl (Nat.le_of_ble_eq_true rfl) (Nat.le_of_ble_eq_true rfl) rfl (J_iload_n (pq := 57) dX9_chipOf_56 rfl rfl (J_aload_n (pq := 58) dX9_chipOf_57 rfl rfl (J_getA (pq := 61) dX9_chipOf_58 rfl f_X9_33 (by decide +kernel) (hK.at rfl) (hR _ _ rfl) (J_iload_n (pq := 62) dX9_chipOf_61 rfl rfl (J_iald (pq := 63) dX9_chipOf_62 rfl (hK.at rfl) (by assumption) (J_icmp_lt (pq := 66) (tgt := 68) dX9_chipOf_63 rfl rfl (fun c => ?_) (fun c => ?_))))))))))
        · rw [hrem, hx4] at c
          have c3 := c
          rw [hs1, nI_ltI (by omega) (by omega)] at c
          have hadr : (64 : Int32) * nI i + (nI n - nI n / 100 * 100) = nI (64 * i + n % 100) := by rw [hrem, ia64]
          have hb : vp_in ((64 : Int32) * nI i + (nI n - nI n / 100 * 100)) 256 := vinN hadr (by omega) (by omega)
          have hx : ix ((64 : Int32) * nI i + (nI n - nI n / 100 * 100)) = 64 * i + n % 100 := by rw [hadr, ixn (by omega)]
          rw [if_neg (i_nle.mpr c3)]
          refine J_bipush (pq := 70) dX9_chipOf_68 rfl c_bipush_64 (J_iload_n (pq := 71) dX9_chipOf_70 rfl rfl (J_imul (pq := 72) dX9_chipOf_71 rfl (J_iload_n (pq := 73) dX9_chipOf_72 rfl rfl (J_iadd (pq := 74) dX9_chipOf_73 rfl (J_istore (pq := 76) dX9_chipOf_74 rfl (Nat.le_of_ble_eq_true rfl) (Nat.le_of_ble_eq_true rfl) rfl (J_iload_n (pq := 77) dX9_chipOf_76 rfl rfl (J_sipush (pq := 80) dX9_chipOf_77 rfl c_sipush_200 (J_icmp_ge (pq := 83) (tgt := 93) dX9_chipOf_80 rfl rfl (fun c => ?_) (fun c => ?_)))))))))
          · rw [if_neg (i_nlt.mpr c)]
            refine J_iload_n (pq := 94) dX9_chipOf_93 rfl rfl (J_sipush (pq := 97) dX9_chipOf_94 rfl c_sipush_300 (J_icmp_ge (pq := 100) (tgt := 110) dX9_chipOf_97 rfl rfl (fun c => ?_) (fun c => ?_)))
            · rw [if_neg (i_nlt.mpr c)]
              refine J_iload_n (pq := 111) dX9_chipOf_110 rfl rfl (J_sipush (pq := 114) dX9_chipOf_111 rfl c_sipush_400 (J_icmp_ge (pq := 117) (tgt := 127) dX9_chipOf_114 rfl rfl (fun c => ?_) (fun c => ?_)))
              · rw [if_neg (i_nlt.mpr c)]
                refine J_aload_n (pq := 128) dX9_chipOf_127 rfl rfl (J_getA (pq := 131) dX9_chipOf_128 rfl f_X9_73 (by decide +kernel) (hK.at rfl) (hR _ _ rfl) (J_iload (pq := 133) dX9_chipOf_131 rfl rfl (J_iald (pq := 134) dX9_chipOf_133 rfl (hK.at rfl) (by assumption) (J_iret dX9_chipOf_134 rfl rfl ?_))))
                exact ⟨by rw [hx], rfl⟩
              · rw [if_pos (i_nle.mp c)]
                refine J_aload_n (pq := 118) dX9_chipOf_117 rfl rfl (J_getA (pq := 121) dX9_chipOf_118 rfl f_X9_70 (by decide +kernel) (hK.at rfl) (hR _ _ rfl) (J_iload (pq := 123) dX9_chipOf_121 rfl rfl (J_iald (pq := 124) dX9_chipOf_123 rfl (hK.at rfl) (by assumption) (J_goto (tgt := 134) dX9_chipOf_124 rfl (J_iret dX9_chipOf_134 rfl rfl ?_)))))
                exact ⟨by rw [hx], rfl⟩
            · rw [if_pos (i_nle.mp c)]
              refine J_aload_n (pq := 101) dX9_chipOf_100 rfl rfl (J_getA (pq := 104) dX9_chipOf_101 rfl f_X9_67 (by decide +kernel) (hK.at rfl) (hR _ _ rfl) (J_iload (pq := 106) dX9_chipOf_104 rfl rfl (J_iald (pq := 107) dX9_chipOf_106 rfl (hK.at rfl) (by assumption) (J_goto (tgt := 134) dX9_chipOf_107 rfl (J_iret dX9_chipOf_134 rfl rfl ?_)))))
              exact ⟨by rw [hx], rfl⟩
          · rw [if_pos (i_nle.mp c)]
            refine J_aload_n (pq := 84) dX9_chipOf_83 rfl rfl (J_getA (pq := 87) dX9_chipOf_84 rfl f_X9_64 (by decide +kernel) (hK.at rfl) (hR _ _ rfl) (J_iload (pq := 89) dX9_chipOf_87 rfl rfl (J_iald (pq := 90) dX9_chipOf_89 rfl (hK.at rfl) (by assumption) (J_goto (tgt := 134) dX9_chipOf_90 rfl (J_iret dX9_chipOf_134 rfl rfl ?_)))))
            exact ⟨by rw [hx], rfl⟩
        · rw [hrem, hx4] at c
          rw [if_pos (i_nlt.mp c)]
          refine J_iconst (pq := 67) dX9_chipOf_66 rfl c_iconst_m1 (J_iret dX9_chipOf_67 rfl rfl ?_)
          exact ⟨rfl, rfl⟩
    · have c1 := c
      rw [l500, nI_ltI hn31 (by omega)] at c
      have hsub : nI n - 500 = nI (n - 500) := by rw [l500, pk_sub (by omega)]
      have hm : mChipOf h i (s i) (nI n) = (if nI (n - 500) < nI (8 * goodc (mBad h i) (s i)) then nI (mAdr h i (s i) (n - 500)) else -1) := by
        unfold mChipOf
        rw [if_pos (i_nlt.mp c1), hsub, ixn (by omega)]
      rw [hm]
      refine J_iload_n (pq := 18) dX9_chipOf_17 rfl rfl (J_sipush (pq := 21) dX9_chipOf_18 rfl c_sipush_500 (J_isub (pq := 22) dX9_chipOf_21 rfl (J_aload_n (pq := 23) dX9_chipOf_22 rfl rfl (J_iload_n (pq := 24) dX9_chipOf_23 rfl rfl (J_virtF (pq := 27) dX9_chipOf_24 rfl (j_X9_logicals hW0 hi) rfl tg_X9_logicals l_X9_207 vi_X9_logicals (hK.at rfl) ⟨by decide, rfl⟩ (Nat.le_of_ble_eq_true rfl) (Nat.zero_le _) (Nat.zero_le _) (Nat.le_of_ble_eq_true rfl) (J_icmp_ge (pq := 30) (tgt := 43) dX9_chipOf_27 rfl rfl (fun c => ?_) (fun c => ?_)))))))
      · rw [hsub] at c
        rw [if_neg (i_nlt.mpr c)]
        refine J_iconst (pq := 44) dX9_chipOf_43 rfl c_iconst_m1 (J_iret dX9_chipOf_44 rfl rfl ?_)
        exact ⟨rfl, rfl⟩
      · rw [hsub] at c
        rw [if_pos (i_nle.mp c)]
        rw [nI_leI (by omega) (by omega)] at c
        refine J_aload_n (pq := 31) dX9_chipOf_30 rfl rfl (J_iload_n (pq := 32) dX9_chipOf_31 rfl rfl (J_iload_n (pq := 33) dX9_chipOf_32 rfl rfl (J_sipush (pq := 36) dX9_chipOf_33 rfl c_sipush_500 (J_isub (pq := 37) dX9_chipOf_36 rfl (?_)))))
        rw [hsub]
        refine J_virtF (pq := 40) dX9_chipOf_37 rfl (j_X9_addressOf hW0 hi (by omega)) rfl tg_X9_addressOf l_X9_210 vi_X9_addressOf (hK.at rfl) ⟨by decide, rfl⟩ (Nat.le_of_ble_eq_true rfl) (Nat.zero_le _) (Nat.zero_le _) (Nat.le_of_ble_eq_true rfl) (J_goto (tgt := 44) dX9_chipOf_40 rfl (J_iret dX9_chipOf_44 rfl rfl ?_))
        exact ⟨rfl, rfl⟩
  · rw [hchip] at c; exact absurd c (by decide)
end M6
