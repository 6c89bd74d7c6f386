-- the class: chips and recipes by number; why, wrong
section D1
variable {x : JX} {h : JH} {q s d e nc : Nat}
theorem j_chipAt_no {v : Int32} (hK : Kin h) (hX : XR h) (hn : gi h 0 7 = nI nc) (hn4 : nc ≤ 4) (hv : isin v 0 (nI nc - 1) = false) : JF x yX8_chipAt cX8_chipAt 2 (some (.object "ChipBurner$Chip")) 0 0 0 [.ref 0, .int v] h (some .null) h := by
  refine JM_of [some (.ref 0), some (.int v)] (by decide) (Nat.le_of_ble_eq_true rfl) rfl ?_
  refine J_iload_n (pq := 1) dX8_chipAt_0 rfl rfl (J_if_lt (pq := 4) (tgt := 26) dX8_chipAt_1 rfl rfl (fun c => ?_) (fun c => ?_))
  · refine J_null (pq := 27) dX8_chipAt_26 rfl (J_aret dX8_chipAt_27 rfl (Or.inl ⟨_, rfl⟩) (Or.inl rfl) ?_)
    exact ⟨rfl, rfl⟩
  · obtain ⟨k, hk31, rfl⟩ := nI_of c
    refine J_iload_n (pq := 5) dX8_chipAt_4 rfl rfl (J_aload_n (pq := 6) dX8_chipAt_5 rfl rfl (J_getI (pq := 9) dX8_chipAt_6 rfl f_X8_128 jsI (by first | exact hc0 | exact hd0 | exact hK.at rfl) (J_icmp_ge (pq := 12) (tgt := 26) dX8_chipAt_9 rfl rfl (fun c => ?_) (fun c => ?_))))
    · refine J_null (pq := 27) dX8_chipAt_26 rfl (J_aret dX8_chipAt_27 rfl (Or.inl ⟨_, rfl⟩) (Or.inl rfl) ?_)
      exact ⟨rfl, rfl⟩
    · rw [hn, nI_leI (by omega) (by omega)] at c
      rw [(isinN (by omega)).mpr ⟨k, by omega, rfl⟩] at hv
      cases hv
theorem j_chipAt {i : Nat} (hK : Kin h) (hX : XR h) (hn : gi h 0 7 = nI nc) (hn4 : nc ≤ 4) (hi : i < nc) (hr : gr h 11 i = some q) : JF x yX8_chipAt cX8_chipAt 2 (some (.object "ChipBurner$Chip")) 0 0 0 [.ref 0, .int (nI i)] h (some (.ref q)) h := by
  refine JM_of [some (.ref 0), some (.int (nI i))] (by decide) (Nat.le_of_ble_eq_true rfl) rfl ?_
  have hb : vp_in (nI i) 4 := vp_in_nI (by omega) (by omega)
  have hr' : gr h 11 (ix (nI i)) = some q := by rw [ixn (by omega)]; exact hr
  refine J_iload_n (pq := 1) dX8_chipAt_0 rfl rfl (J_if_lt (pq := 4) (tgt := 26) dX8_chipAt_1 rfl rfl (fun c => ?_) (fun c => ?_))
  · rw [show (0 : Int32) = nI 0 from rfl, nI_ltI (by omega) (by omega)] at c; omega
  · refine J_iload_n (pq := 5) dX8_chipAt_4 rfl rfl (J_aload_n (pq := 6) dX8_chipAt_5 rfl rfl (J_getI (pq := 9) dX8_chipAt_6 rfl f_X8_128 jsI (by first | exact hc0 | exact hd0 | exact hK.at rfl) (J_icmp_ge (pq := 12) (tgt := 26) dX8_chipAt_9 rfl rfl (fun c => ?_) (fun c => ?_))))
    · rw [hn, nI_leI (by omega) (by omega)] at c; omega
    · refine J_iload_n (pq := 13) dX8_chipAt_12 rfl rfl (J_iconst (pq := 14) dX8_chipAt_13 rfl c_iconst_4 (J_icmp_ge (pq := 17) (tgt := 26) dX8_chipAt_14 rfl rfl (fun c => ?_) (fun c => ?_)))
      · rw [show (4 : Int32) = nI 4 from rfl, nI_leI (by omega) (by omega)] at c; omega
      · refine J_aload_n (pq := 18) dX8_chipAt_17 rfl rfl (J_getA (pq := 21) dX8_chipAt_18 rfl f_X8_54 (by decide +kernel) (by first | exact hc0 | exact hd0 | exact hK.at rfl) (hX _ _ _ rfl) (J_iload_n (pq := 22) dX8_chipAt_21 rfl rfl (J_aald (Or.inl rfl) (pq := 23) dX8_chipAt_22 rfl (by first | exact hc0 | exact hd0 | exact hK.at rfl) (by assumption) hr' (J_goto (tgt := 27) dX8_chipAt_23 rfl (J_aret dX8_chipAt_27 rfl (Or.inl ⟨_, rfl⟩) (Or.inr ⟨_, rfl⟩) ?_)))))
        exact ⟨rfl, rfl⟩
theorem j_recipeAt_no {v : Int32} (hK : Kin h) (hX : XR h) (hv : isin v 0 3 = false) : JF x yX8_recipeAt cX8_recipeAt 2 (some (.object "ChipBurner$Recipe")) 1 0 0 [.ref 0, .int v] h (some .null) h := by
  refine JM_of [some (.ref 0), some (.int v)] (by decide) (Nat.le_of_ble_eq_true rfl) rfl ?_
  refine J_iload_n (pq := 1) dX8_recipeAt_0 rfl rfl (J_iconst (pq := 2) dX8_recipeAt_1 rfl c_iconst_0 (J_iconst (pq := 3) dX8_recipeAt_2 rfl c_iconst_3 (J_statF (pq := 6) dX8_recipeAt_3 rfl (j_X8_isWithin) rfl tg_X8_isWithin l_X8_87 st_X8_isWithin (Nat.le_of_ble_eq_true rfl) (Nat.zero_le _) (Nat.zero_le _) (Nat.le_of_ble_eq_true rfl) (J_if_eq (pq := 9) (tgt := 18) dX8_recipeAt_6 rfl rfl (fun c => ?_) (fun c => ?_)))))
  · refine J_null (pq := 19) dX8_recipeAt_18 rfl (J_aret dX8_recipeAt_19 rfl (Or.inl ⟨_, rfl⟩) (Or.inl rfl) ?_)
    exact ⟨rfl, rfl⟩
  · rw [hv] at c; exact absurd rfl c
theorem j_recipeAt {i : Nat} (hK : Kin h) (hX : XR h) (hi : i < 4) (hr : gr h 12 i = some d) : JF x yX8_recipeAt cX8_recipeAt 2 (some (.object "ChipBurner$Recipe")) 1 0 0 [.ref 0, .int (nI i)] h (some (.ref d)) h := by
  refine JM_of [some (.ref 0), some (.int (nI i))] (by decide) (Nat.le_of_ble_eq_true rfl) rfl ?_
  have hb : vp_in (nI i) 4 := vp_in_nI (by omega) (by omega)
  have hr' : gr h 12 (ix (nI i)) = some d := by rw [ixn (by omega)]; exact hr
  refine J_iload_n (pq := 1) dX8_recipeAt_0 rfl rfl (J_iconst (pq := 2) dX8_recipeAt_1 rfl c_iconst_0 (J_iconst (pq := 3) dX8_recipeAt_2 rfl c_iconst_3 (J_statF (pq := 6) dX8_recipeAt_3 rfl (j_X8_isWithin) rfl tg_X8_isWithin l_X8_87 st_X8_isWithin (Nat.le_of_ble_eq_true rfl) (Nat.zero_le _) (Nat.zero_le _) (Nat.le_of_ble_eq_true rfl) (J_if_eq (pq := 9) (tgt := 18) dX8_recipeAt_6 rfl rfl (fun c => ?_) (fun c => ?_)))))
  · rw [show isin (nI i) 0 3 = true from (isK (n := 3) (by omega)).mpr ⟨i, by omega, rfl⟩] at c
    exact absurd c (by decide)
  · refine J_aload_n (pq := 10) dX8_recipeAt_9 rfl rfl (J_getA (pq := 13) dX8_recipeAt_10 rfl f_X8_60 (by decide +kernel) (by first | exact hc0 | exact hd0 | exact hK.at rfl) (hX _ _ _ rfl) (J_iload_n (pq := 14) dX8_recipeAt_13 rfl rfl (J_aald (Or.inr rfl) (pq := 15) dX8_recipeAt_14 rfl (by first | exact hc0 | exact hd0 | exact hK.at rfl) (by assumption) hr' (J_goto (tgt := 19) dX8_recipeAt_15 rfl (J_aret dX8_recipeAt_19 rfl (Or.inl ⟨_, rfl⟩) (Or.inr ⟨_, rfl⟩) ?_)))))
    exact ⟨rfl, rfl⟩
theorem j_X8_image {i : Int32} (hK : Kin h) (hX : XR h) : JF x yX8_image cX8_image 2 (some .int) 1 0 0 [.ref 0, .int i] h (some (.int (if isin i 0 255 then gi h 3 (ix i) else -1))) h := by
  refine JM_of [some (.ref 0), some (.int i)] (by decide) (Nat.le_of_ble_eq_true rfl) rfl ?_
  refine J_iload_n (pq := 1) dX8_image_0 rfl rfl (J_iconst (pq := 2) dX8_image_1 rfl c_iconst_0 (J_sipush (pq := 5) dX8_image_2 rfl c_sipush_255 (J_statF (pq := 8) dX8_image_5 rfl (j_X8_isWithin) rfl tg_X8_isWithin l_X8_87 st_X8_isWithin (Nat.le_of_ble_eq_true rfl) (Nat.zero_le _) (Nat.zero_le _) (Nat.le_of_ble_eq_true rfl) (J_if_eq (pq := 11) (tgt := 20) dX8_image_8 rfl rfl (fun c => ?_) (fun c => ?_)))))
  · rw [bi_0] at c
    refine J_iconst (pq := 21) dX8_image_20 rfl c_iconst_m1 (J_iret dX8_image_21 rfl rfl ?_)
    exact ⟨by rw [if_neg (by rw [c]; decide)], rfl⟩
  · rw [bi_0, Bool.not_eq_false] at c
    obtain ⟨k, hk, rfl⟩ := (isK (n := 255) (by omega)).mp c
    have hb : vp_in (nI k) 256 := vp_in_nI (by omega) (by omega)
    refine J_aload_n (pq := 12) dX8_image_11 rfl rfl (J_getA (pq := 15) dX8_image_12 rfl f_X8_16 (by decide +kernel) (by first | exact hc0 | exact hd0 | exact hK.at rfl) (hX _ _ _ rfl) (J_iload_n (pq := 16) dX8_image_15 rfl rfl (J_iald (pq := 17) dX8_image_16 rfl (by first | exact hc0 | exact hd0 | exact hK.at rfl) (by assumption) (J_goto (tgt := 21) dX8_image_17 rfl (J_iret dX8_image_21 rfl rfl ?_)))))
    exact ⟨by rw [if_pos c], rfl⟩
theorem b0_255 {k : Nat} (hk : k ≤ 255) : isin (nI k) 0 255 = true := (isK (n := 255) (by omega)).mpr ⟨k, hk, rfl⟩
theorem j_img {k : Nat} (hK : Kin h) (hX : XR h) (hk : k ≤ 255) : JF x yX8_image cX8_image 2 (some .int) 1 0 0 [.ref 0, .int (nI k)] h (some (.int (gi h 3 k))) h := by
  have := j_X8_image (x := x) (i := nI k) hK hX
  rw [if_pos (b0_255 hk), ixn (by omega)] at this
  exact this
def xRch (h : JH) (q s f w : Nat) : Nat := min (8 * goodc (xBad h q) s) ((255 - f) / w + 1)
theorem b1_8 {w : Nat} (hw : 1 ≤ w ∧ w ≤ 8) : isin (nI w) 1 8 = true := by
  rw [isin_t, nI_toInt (by omega), show (1 : Int32).toInt = 1 from rfl, show (8 : Int32).toInt = 8 from rfl]; omega
theorem j_reach {f w : Nat} (hC : CK h q s) (hf : f ≤ 255) (hw : 1 ≤ w ∧ w ≤ 8) : JF x yX8_reachOf cX8_reachOf 3 (some .int) 2 0 0 [.ref q, .int (nI f), .int (nI w)] h (some (.int (nI (xRch h q s f w)))) h := by
  have hC0 := hC
  obtain ⟨⟨hc0, -⟩, -, -, hs1, hs2⟩ := hC
  have hgl := goodc_le (xBad h q) s
  refine JM_of [some (.ref q), some (.int (nI f)), some (.int (nI w))] (by decide) (Nat.le_of_ble_eq_true rfl) rfl ?_
  have hw0 : ¬ nI w = 0 := by rw [show (0 : Int32) = nI 0 from rfl, nI_eq (by omega) (by omega)]; omega
  have hdl : (255 - f) / w ≤ 255 := Nat.le_trans (Nat.div_le_self _ _) (by omega)
  have hq : ((255 : Int32) - nI f) / nI w + 1 = nI ((255 - f) / w + 1) := by
    rw [show (255 : Int32) = nI 255 from rfl, pk_sub hf, pk_div (by omega) (by omega) (by omega), nI_1]
  refine J_iload_n (pq := 1) dX8_reachOf_0 rfl rfl (J_iload_n (pq := 2) dX8_reachOf_1 rfl rfl (J_statF (pq := 5) dX8_reachOf_2 rfl (j_X8_isPart) rfl tg_X8_isPart l_X8_192 st_X8_isPart (Nat.le_of_ble_eq_true rfl) (Nat.zero_le _) (Nat.zero_le _) (Nat.le_of_ble_eq_true rfl) (J_if_ne (pq := 8) (tgt := 10) dX8_reachOf_5 rfl rfl (fun c => ?_) (fun c => ?_))))
  · refine J_aload_n (pq := 11) dX8_reachOf_10 rfl rfl (J_virtF (pq := 14) dX8_reachOf_11 rfl (j_X0_logicalCount hC0) rfl tg_X0_logicalCount l_X8_224 vi_X0_logicalCount hc0 ⟨by decide, rfl⟩ (Nat.le_of_ble_eq_true rfl) (Nat.zero_le _) (Nat.zero_le _) (Nat.le_of_ble_eq_true rfl) (J_sipush (pq := 17) dX8_reachOf_14 rfl c_sipush_255 (J_iload_n (pq := 18) dX8_reachOf_17 rfl rfl (J_isub (pq := 19) dX8_reachOf_18 rfl (J_iload_n (pq := 20) dX8_reachOf_19 rfl rfl (J_idiv (pq := 21) dX8_reachOf_20 rfl hw0 (J_iconst (pq := 22) dX8_reachOf_21 rfl c_iconst_1 (J_iadd (pq := 23) dX8_reachOf_22 rfl (?_)))))))))
    rw [hq]
    refine J_statF (pq := 26) dX8_reachOf_23 rfl (j_min (by omega) (by omega)) rfl tg_J9_min_7cf53 l_X8_227 st_J9_min_7cf53 (Nat.le_of_ble_eq_true rfl) (Nat.zero_le _) (Nat.zero_le _) (Nat.le_of_ble_eq_true rfl) (J_iret dX8_reachOf_26 rfl rfl ?_)
    exact ⟨rfl, rfl⟩
  · rw [b0_255 hf, b1_8 hw] at c; exact absurd c (by decide)
def xFit (h : JH) (q d : Nat) : Bool := decide (gi h d 5 ≤ gi h q 4) && decide (gi h d 6 ≤ gi h q 5) && decide (gi h d 7 ≤ 5000)
theorem j_fits (hc0 : (kd h)[q]? = some (0, 17)) (hd0 : (kd h)[d]? = some (4, 8)) : JF x yX4_fits cX4_fits 2 (some .boolean) 0 0 0 [.ref d, .ref q] h (some (.int (bi (xFit h q d)))) h := by
  refine JM_of [some (.ref d), some (.ref q)] (by decide) (Nat.le_of_ble_eq_true rfl) rfl ?_
  unfold xFit
  refine J_aload_n (pq := 1) dX4_fits_0 rfl rfl (J_getI (pq := 4) dX4_fits_1 rfl f_X4_24 jsI hd0 (J_aload_n (pq := 5) dX4_fits_4 rfl rfl (J_getI (pq := 8) dX4_fits_5 rfl f_X4_61 jsI hc0 (J_icmp_gt (pq := 11) (tgt := 36) dX4_fits_8 rfl rfl (fun c => ?_) (fun c => ?_)))))
  · refine J_iconst (pq := 37) dX4_fits_36 rfl c_iconst_0 (J_iret dX4_fits_37 rfl (by first | rfl | exact bi_nar _) ?_)
    exact ⟨by rw [decide_eq_false (i_nle.mpr c)]; rfl, rfl⟩
  · have c1 := i_nlt.mp c
    refine J_aload_n (pq := 12) dX4_fits_11 rfl rfl (J_getI (pq := 15) dX4_fits_12 rfl f_X4_55 jsI hd0 (J_aload_n (pq := 16) dX4_fits_15 rfl rfl (J_getI (pq := 19) dX4_fits_16 rfl f_X4_65 jsI hc0 (J_icmp_gt (pq := 22) (tgt := 36) dX4_fits_19 rfl rfl (fun c => ?_) (fun c => ?_)))))
    · refine J_iconst (pq := 37) dX4_fits_36 rfl c_iconst_0 (J_iret dX4_fits_37 rfl (by first | rfl | exact bi_nar _) ?_)
      exact ⟨by rw [decide_eq_false (i_nle.mpr c), Bool.and_false]; rfl, rfl⟩
    · have c2 := i_nlt.mp c
      refine J_aload_n (pq := 23) dX4_fits_22 rfl rfl (J_getI (pq := 26) dX4_fits_23 rfl f_X4_58 jsI hd0 (J_sipush (pq := 29) dX4_fits_26 rfl c_sipush_5000 (J_icmp_gt (pq := 32) (tgt := 36) dX4_fits_29 rfl rfl (fun c => ?_) (fun c => ?_))))
      · refine J_iconst (pq := 37) dX4_fits_36 rfl c_iconst_0 (J_iret dX4_fits_37 rfl (by first | rfl | exact bi_nar _) ?_)
        exact ⟨by rw [decide_eq_false (i_nle.mpr c), Bool.and_false]; rfl, rfl⟩
      · have c3 := i_nlt.mp c
        refine J_iconst (pq := 33) dX4_fits_32 rfl c_iconst_1 (J_goto (tgt := 37) dX4_fits_33 rfl (J_iret dX4_fits_37 rfl (by first | rfl | exact bi_nar _) ?_))
        exact ⟨by rw [decide_eq_true c1, decide_eq_true c2, decide_eq_true c3]; rfl, rfl⟩
def xFwd (h : JH) (q s f w k : Nat) : Bool := decide (gi h (q + 3) (xAdr h q s k) &&& gi h (q + 4) (xAdr h q s k) &&& gi h 3 (f + w * k) = gi h 3 (f + w * k))
def xWhy (h : JH) (q s d : Nat) (id : Int32) (f w : Nat) : Int32 := if ¬ lkf (xLack h q) 28 0 = -1 then 1 else if ¬ gi h q 1 = id then 2 else if xFit h q d = false then 3 else if (∀ k, k < xRch h q s f w → xFwd h q s f w k = true) then 0 else 4
theorem j_hind {f w : Nat} {id : Int32} (hK : Kin h) (hX : XR h) (hC : CK h q s) (hd0 : (kd h)[d]? = some (4, 8)) (hf : f ≤ 255) (hw : 1 ≤ w ∧ w ≤ 8) : JF x yX8_hindrance cX8_hindrance 8 (some .int) 3 0 0 [.ref 0, .ref q, .ref d, .int id, .int (nI f), .int (nI w)] h (some (.int (xWhy h q s d id f w))) h := by
  have hC0 := hC
  obtain ⟨⟨hc0, -⟩, -, -, hs1, hs2⟩ := hC
  have hgl := goodc_le (xBad h q) s
  have hn : xRch h q s f w ≤ (255 - f) / w + 1 := Nat.min_le_right _ _
  have hn2 : xRch h q s f w ≤ 8 * goodc (xBad h q) s := Nat.min_le_left _ _
  refine JM_of [some (.ref 0), some (.ref q), some (.ref d), some (.int id), some (.int (nI f)), some (.int (nI w)), none, none] (by decide) (Nat.le_of_ble_eq_true rfl) rfl ?_
  unfold xWhy
  refine J_aload_n (pq := 1) dX8_hindrance_0 rfl rfl (J_virtF (pq := 4) dX8_hindrance_1 rfl (j_X0_firstLackingPin hC0) rfl tg_X0_firstLackingPin l_X8_229 vi_X0_firstLackingPin (by first | exact hc0 | exact hd0 | exact hK.at rfl) ⟨by decide, rfl⟩ (Nat.le_of_ble_eq_true rfl) (Nat.zero_le _) (Nat.zero_le _) (Nat.le_of_ble_eq_true rfl) (J_iconst (pq := 5) dX8_hindrance_4 rfl c_iconst_m1 (J_icmp_eq (pq := 8) (tgt := 10) dX8_hindrance_5 rfl rfl (fun c => ?_) (fun c => ?_))))
  · rw [if_neg (fun z => z c)]
    refine J_aload_n (pq := 11) dX8_hindrance_10 rfl rfl (J_getI (pq := 14) dX8_hindrance_11 rfl f_X8_232 jsI (by first | exact hc0 | exact hd0 | exact hK.at rfl) (J_iload_n (pq := 15) dX8_hindrance_14 rfl rfl (J_icmp_eq (pq := 18) (tgt := 20) dX8_hindrance_15 rfl rfl (fun c => ?_) (fun c => ?_))))
    · rw [if_neg (fun z => z c)]
      refine J_aload_n (pq := 21) dX8_hindrance_20 rfl rfl (J_aload_n (pq := 22) dX8_hindrance_21 rfl rfl (J_virtF (pq := 25) dX8_hindrance_22 rfl (j_fits hc0 hd0) rfl tg_X4_fits l_X8_235 vi_X4_fits (by first | exact hc0 | exact hd0 | exact hK.at rfl) ⟨by decide, rfl⟩ (Nat.le_of_ble_eq_true rfl) (Nat.zero_le _) (Nat.zero_le _) (Nat.le_of_ble_eq_true rfl) (J_if_ne (pq := 28) (tgt := 30) dX8_hindrance_25 rfl rfl (fun c => ?_) (fun c => ?_))))
      · rw [bi_0, Bool.not_eq_false] at c
        rw [if_neg (by rw [c]; decide)]
        refine J_aload_n (pq := 31) dX8_hindrance_30 rfl rfl (J_iload (pq := 33) dX8_hindrance_31 rfl rfl (J_iload (pq := 35) dX8_hindrance_33 rfl rfl (J_statF (pq := 38) dX8_hindrance_35 rfl (j_reach hC0 hf hw) rfl tg_X8_reachOf l_X8_205 st_X8_reachOf (Nat.le_of_ble_eq_true rfl) (Nat.zero_le _) (Nat.zero_le _) (Nat.le_of_ble_eq_true rfl) (J_istore (pq := 40) dX8_hindrance_38 rfl (Nat.le_of_ble_eq_true rfl) (Nat.le_of_ble_eq_true rfl) rfl (J_iconst (pq := 41) dX8_hindrance_40 rfl c_iconst_0 (J_istore (pq := 43) dX8_hindrance_41 rfl (Nat.le_of_ble_eq_true rfl) (Nat.le_of_ble_eq_true rfl) rfl (?_)))))))
        refine J_loop (σ := Nat) (fun k => [some (.ref 0), some (.ref q), some (.ref d), some (.int id), some (.int (nI f)), some (.int (nI w)), some (.int (nI (xRch h q s f w))), some (.int (nI k))]) (fun _ => []) (fun _ => h) (fun k => k ≤ xRch h q s f w ∧ ∀ j, j < k → xFwd h q s f w j = true) (fun k => xRch h q s f w - k) 0 rfl rfl rfl ⟨Nat.zero_le _, fun j q => absurd q (Nat.not_lt_zero _)⟩ (fun k hk ih => ?_)
        obtain ⟨k1, k2⟩ := hk
        refine J_iload (pq := 45) dX8_hindrance_43 rfl rfl (J_iload (pq := 47) dX8_hindrance_45 rfl rfl (J_icmp_ge (pq := 50) (tgt := 83) dX8_hindrance_47 rfl rfl (fun c => ?_) (fun c => ?_)))
        · rw [nI_leI (by omega) (by omega)] at c
          refine J_iconst (pq := 84) dX8_hindrance_83 rfl c_iconst_0 (J_iret dX8_hindrance_84 rfl rfl ?_)
          exact ⟨by rw [if_pos (fun j z => k2 j (by omega))], rfl⟩
        · rw [nI_leI (by omega) (by omega)] at c
          have hk : k < xRch h q s f w := Nat.lt_of_not_le c
          have hfw := fw_le hf hn hk
          have hal := xAdr_lt (h := h) (q := q) (s := s) (Nat.lt_of_lt_of_le hk hn2)
          refine J_aload_n (pq := 51) dX8_hindrance_50 rfl rfl (J_aload_n (pq := 52) dX8_hindrance_51 rfl rfl (J_iload (pq := 54) dX8_hindrance_52 rfl rfl (J_virtF (pq := 57) dX8_hindrance_54 rfl (j_X0_addressOf hC0 (by omega)) rfl tg_X0_addressOf l_X8_212 vi_X0_addressOf (by first | exact hc0 | exact hd0 | exact hK.at rfl) ⟨by decide, rfl⟩ (Nat.le_of_ble_eq_true rfl) (Nat.zero_le _) (Nat.zero_le _) (Nat.le_of_ble_eq_true rfl) (?_))))
          rw [if_pos (Nat.lt_of_lt_of_le hk hn2)]
          refine J_aload_n (pq := 58) dX8_hindrance_57 rfl rfl (J_iload (pq := 60) dX8_hindrance_58 rfl rfl (J_iload (pq := 62) dX8_hindrance_60 rfl rfl (J_iload (pq := 64) dX8_hindrance_62 rfl rfl (J_imul (pq := 65) dX8_hindrance_64 rfl (J_iadd (pq := 66) dX8_hindrance_65 rfl (?_))))))
          rw [im_n]
          refine J_virtF (pq := 69) dX8_hindrance_66 rfl (j_img hK hX hfw) rfl tg_X8_image l_X8_215 vi_X8_image (by first | exact hc0 | exact hd0 | exact hK.at rfl) ⟨by decide, rfl⟩ (Nat.le_of_ble_eq_true rfl) (Nat.zero_le _) (Nat.zero_le _) (Nat.le_of_ble_eq_true rfl) (J_virtF (pq := 72) dX8_hindrance_69 rfl (j_X0_mustGoBack hC0 hal) rfl tg_X0_mustGoBack l_X8_239 vi_X0_mustGoBack (by first | exact hc0 | exact hd0 | exact hK.at rfl) ⟨by decide, rfl⟩ (Nat.le_of_ble_eq_true rfl) (Nat.zero_le _) (Nat.zero_le _) (Nat.le_of_ble_eq_true rfl) (J_if_eq (pq := 75) (tgt := 77) dX8_hindrance_72 rfl rfl (fun c => ?_) (fun c => ?_)))
          · rw [bi_0, decide_eq_false_iff_not, Decidable.not_not] at c
            refine J_iinc (pq := 80) dX8_hindrance_77 rfl c_iconst_1 rfl (Nat.le_of_ble_eq_true rfl) rfl (J_goto (tgt := 43) dX8_hindrance_80 rfl (?_))
            rw [nI_1]
            refine J_weak (by simp [lsub]) rfl rfl (ih (k + 1) ⟨by omega, fun j z => ?_⟩ (by omega))
            by_cases hj : j = k
            · subst hj; unfold xFwd; rw [decide_eq_true c]
            · exact k2 j (by omega)
          · rw [bi_0, decide_eq_false_iff_not, Decidable.not_not] at c
            refine J_iconst (pq := 76) dX8_hindrance_75 rfl c_iconst_4 (J_iret dX8_hindrance_76 rfl rfl ?_)
            refine ⟨?_, rfl⟩
            rw [if_neg (fun z => c (by have := z k hk; unfold xFwd at this; exact of_decide_eq_true this))]
      · rw [bi_0] at c
        rw [if_pos c]
        refine J_iconst (pq := 29) dX8_hindrance_28 rfl c_iconst_3 (J_iret dX8_hindrance_29 rfl rfl ?_)
        exact ⟨rfl, rfl⟩
    · rw [if_pos c]
      refine J_iconst (pq := 19) dX8_hindrance_18 rfl c_iconst_2 (J_iret dX8_hindrance_19 rfl rfl ?_)
      exact ⟨rfl, rfl⟩
  · rw [if_pos c]
    refine J_iconst (pq := 9) dX8_hindrance_8 rfl c_iconst_1 (J_iret dX8_hindrance_9 rfl rfl ?_)
    exact ⟨rfl, rfl⟩
theorem j_X8_why {i r f w : Nat} {id : Int32} (hK : Kin h) (hX : XR h) (hn : gi h 0 7 = nI nc) (hn4 : nc ≤ 4) (hi : i < nc) (hr : r < 4) (hg : gr h 11 i = some q) (hgr : gr h 12 r = some d) (hC : CK h q s) (hd0 : (kd h)[d]? = some (4, 8)) (hid : isin id 0 255 = true) (hf : f ≤ 255) (hw : 1 ≤ w ∧ w ≤ 8) : JF x yX8_why cX8_why 8 (some .int) 4 0 0 [.ref 0, .int (nI i), .int (nI r), .int id, .int (nI f), .int (nI w)] h (some (.int (xWhy h q s d id f w))) h := by
  have hc0 := hC.1.1
  refine JM_of [some (.ref 0), some (.int (nI i)), some (.int (nI r)), some (.int id), some (.int (nI f)), some (.int (nI w)), none, none] (by decide) (Nat.le_of_ble_eq_true rfl) rfl ?_
  refine J_aload_n (pq := 1) dX8_why_0 rfl rfl (J_iload_n (pq := 2) dX8_why_1 rfl rfl (J_virtF (pq := 5) dX8_why_2 rfl (j_chipAt hK hX hn hn4 hi hg) rfl tg_X8_chipAt l_X8_142 vi_X8_chipAt (by first | exact hc0 | exact hd0 | exact hK.at rfl) ⟨by decide, rfl⟩ (Nat.le_of_ble_eq_true rfl) (Nat.zero_le _) (Nat.zero_le _) (Nat.le_of_ble_eq_true rfl) (J_astore (pq := 7) dX8_why_5 rfl (Nat.le_of_ble_eq_true rfl) (Nat.le_of_ble_eq_true rfl) rfl (J_aload_n (pq := 8) dX8_why_7 rfl rfl (J_iload_n (pq := 9) dX8_why_8 rfl rfl (J_virtF (pq := 12) dX8_why_9 rfl (j_recipeAt hK hX hr hgr) rfl tg_X8_recipeAt l_X8_179 vi_X8_recipeAt (by first | exact hc0 | exact hd0 | exact hK.at rfl) ⟨by decide, rfl⟩ (Nat.le_of_ble_eq_true rfl) (Nat.zero_le _) (Nat.zero_le _) (Nat.le_of_ble_eq_true rfl) (J_astore (pq := 14) dX8_why_12 rfl (Nat.le_of_ble_eq_true rfl) (Nat.le_of_ble_eq_true rfl) rfl (J_aload (pq := 16) dX8_why_14 rfl rfl (J_ifnull (pq := 19) dX8_why_16 rfl (J_aload (pq := 21) dX8_why_19 rfl rfl (J_ifnull (pq := 24) dX8_why_21 rfl (J_iload_n (pq := 25) dX8_why_24 rfl rfl (J_iconst (pq := 26) dX8_why_25 rfl c_iconst_0 (J_sipush (pq := 29) dX8_why_26 rfl c_sipush_255 (J_statF (pq := 32) dX8_why_29 rfl (j_X8_isWithin) rfl tg_X8_isWithin l_X8_87 st_X8_isWithin (Nat.le_of_ble_eq_true rfl) (Nat.zero_le _) (Nat.zero_le _) (Nat.le_of_ble_eq_true rfl) (J_if_eq (pq := 35) (tgt := 45) dX8_why_32 rfl rfl (fun c => ?_) (fun c => ?_)))))))))))))))))
  · rw [hid] at c; exact absurd c (by decide)
  · refine J_iload (pq := 37) dX8_why_35 rfl rfl (J_iload (pq := 39) dX8_why_37 rfl rfl (J_statF (pq := 42) dX8_why_39 rfl (j_X8_isPart) rfl tg_X8_isPart l_X8_192 st_X8_isPart (Nat.le_of_ble_eq_true rfl) (Nat.zero_le _) (Nat.zero_le _) (Nat.le_of_ble_eq_true rfl) (J_if_ne (pq := 45) (tgt := 47) dX8_why_42 rfl rfl (fun c => ?_) (fun c => ?_))))
    · refine J_aload_n (pq := 48) dX8_why_47 rfl rfl (J_aload (pq := 50) dX8_why_48 rfl rfl (J_aload (pq := 52) dX8_why_50 rfl rfl (J_iload_n (pq := 53) dX8_why_52 rfl rfl (J_iload (pq := 55) dX8_why_53 rfl rfl (J_iload (pq := 57) dX8_why_55 rfl rfl (J_virtF (pq := 60) dX8_why_57 rfl (j_hind hK hX hC hd0 hf hw) rfl tg_X8_hindrance l_X8_195 vi_X8_hindrance (by first | exact hc0 | exact hd0 | exact hK.at rfl) ⟨by decide, rfl⟩ (Nat.le_of_ble_eq_true rfl) (Nat.zero_le _) (Nat.zero_le _) (Nat.le_of_ble_eq_true rfl) (J_iret dX8_why_60 rfl rfl ?_)))))))
      exact ⟨rfl, rfl⟩
    · rw [b0_255 hf, b1_8 hw] at c; exact absurd c (by decide)
end D1
