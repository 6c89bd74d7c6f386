-- the class: the calls that ask for a chip
section D2
variable {x : JX} {h : JH} {q s d e nc : Nat}
theorem j_X8_why_no {v r id f w : Int32} {rd : Nat → Nat} {cq : Nat → Nat} (hK : Kin h) (hX : XR h) (hn : gi h 0 7 = nI nc) (hn4 : nc ≤ 4) (hg : ∀ i, i < nc → gr h 11 i = some (cq i)) (hgr : ∀ r, r < 4 → gr h 12 r = some (rd r)) (ho : (isin v 0 (nI nc - 1) && isin r 0 3 && isin id 0 255 && (isin f 0 255 && isin w 1 8)) = false) : JF x yX8_why cX8_why 8 (some .int) 4 0 0 [.ref 0, .int v, .int r, .int id, .int f, .int w] h (some (.int (-1))) h := by
  refine JM_of [some (.ref 0), some (.int v), some (.int r), some (.int id), some (.int f), some (.int w), none, none] (by decide) (Nat.le_of_ble_eq_true rfl) rfl ?_
  by_cases hv : isin v 0 (nI nc - 1) = true
  · rw [hv, Bool.true_and] at ho
    obtain ⟨i, hi, rfl⟩ := (isinN (by omega)).mp hv
    by_cases hr : isin r 0 3 = true
    · rw [hr, Bool.true_and] at ho
      obtain ⟨j, hj, rfl⟩ := (isK (n := 3) (by omega)).mp hr
      refine J_aload_n (pq := 1) dX8_why_0 rfl rfl (J_iload_n (pq := 2) dX8_why_1 rfl rfl (J_virtF (pq := 5) dX8_why_2 rfl (j_chipAt hK hX hn hn4 hi (hg i hi)) rfl tg_X8_chipAt l_X8_142 vi_X8_chipAt (by first | exact hc0 | exact hd0 | exact hK.at rfl) ⟨by decide, rfl⟩ (Nat.le_of_ble_eq_true rfl) (Nat.zero_le _) (Nat.zero_le _) (Nat.le_of_ble_eq_true rfl) (J_astore (pq := 7) dX8_why_5 rfl (Nat.le_of_ble_eq_true rfl) (Nat.le_of_ble_eq_true rfl) rfl (J_aload_n (pq := 8) dX8_why_7 rfl rfl (J_iload_n (pq := 9) dX8_why_8 rfl rfl (J_virtF (pq := 12) dX8_why_9 rfl (j_recipeAt hK hX (by omega) (hgr j (by omega))) rfl tg_X8_recipeAt l_X8_179 vi_X8_recipeAt (by first | exact hc0 | exact hd0 | exact hK.at rfl) ⟨by decide, rfl⟩ (Nat.le_of_ble_eq_true rfl) (Nat.zero_le _) (Nat.zero_le _) (Nat.le_of_ble_eq_true rfl) (J_astore (pq := 14) dX8_why_12 rfl (Nat.le_of_ble_eq_true rfl) (Nat.le_of_ble_eq_true rfl) rfl (J_aload (pq := 16) dX8_why_14 rfl rfl (J_ifnull (pq := 19) dX8_why_16 rfl (J_aload (pq := 21) dX8_why_19 rfl rfl (J_ifnull (pq := 24) dX8_why_21 rfl (J_iload_n (pq := 25) dX8_why_24 rfl rfl (J_iconst (pq := 26) dX8_why_25 rfl c_iconst_0 (J_sipush (pq := 29) dX8_why_26 rfl c_sipush_255 (J_statF (pq := 32) dX8_why_29 rfl (j_X8_isWithin) rfl tg_X8_isWithin l_X8_87 st_X8_isWithin (Nat.le_of_ble_eq_true rfl) (Nat.zero_le _) (Nat.zero_le _) (Nat.le_of_ble_eq_true rfl) (J_if_eq (pq := 35) (tgt := 45) dX8_why_32 rfl rfl (fun c => ?_) (fun c => ?_)))))))))))))))))
      · refine J_iconst (pq := 46) dX8_why_45 rfl c_iconst_m1 (J_iret dX8_why_46 rfl rfl ?_)
        exact ⟨rfl, rfl⟩
      · rw [bi_0, Bool.not_eq_false] at c
        rw [c, Bool.true_and] at ho
        refine J_iload (pq := 37) dX8_why_35 rfl rfl (J_iload (pq := 39) dX8_why_37 rfl rfl (J_statF (pq := 42) dX8_why_39 rfl (j_X8_isPart) rfl tg_X8_isPart l_X8_192 st_X8_isPart (Nat.le_of_ble_eq_true rfl) (Nat.zero_le _) (Nat.zero_le _) (Nat.le_of_ble_eq_true rfl) (J_if_ne (pq := 45) (tgt := 47) dX8_why_42 rfl rfl (fun c => ?_) (fun c => ?_))))
        · rw [ho] at c; exact absurd rfl c
        · refine J_iconst (pq := 46) dX8_why_45 rfl c_iconst_m1 (J_iret dX8_why_46 rfl rfl ?_)
          exact ⟨rfl, rfl⟩
    · rw [Bool.not_eq_true] at hr
      refine J_aload_n (pq := 1) dX8_why_0 rfl rfl (J_iload_n (pq := 2) dX8_why_1 rfl rfl (J_virtF (pq := 5) dX8_why_2 rfl (j_chipAt hK hX hn hn4 hi (hg i hi)) rfl tg_X8_chipAt l_X8_142 vi_X8_chipAt (by first | exact hc0 | exact hd0 | exact hK.at rfl) ⟨by decide, rfl⟩ (Nat.le_of_ble_eq_true rfl) (Nat.zero_le _) (Nat.zero_le _) (Nat.le_of_ble_eq_true rfl) (J_astore (pq := 7) dX8_why_5 rfl (Nat.le_of_ble_eq_true rfl) (Nat.le_of_ble_eq_true rfl) rfl (J_aload_n (pq := 8) dX8_why_7 rfl rfl (J_iload_n (pq := 9) dX8_why_8 rfl rfl (J_virtF (pq := 12) dX8_why_9 rfl (j_recipeAt_no hK hX hr) rfl tg_X8_recipeAt l_X8_179 vi_X8_recipeAt (by first | exact hc0 | exact hd0 | exact hK.at rfl) ⟨by decide, rfl⟩ (Nat.le_of_ble_eq_true rfl) (Nat.zero_le _) (Nat.zero_le _) (Nat.le_of_ble_eq_true rfl) (J_astoreN (pq := 14) dX8_why_12 rfl (Nat.le_of_ble_eq_true rfl) (Nat.le_of_ble_eq_true rfl) rfl (J_aload (pq := 16) dX8_why_14 rfl rfl (J_ifnull (pq := 19) dX8_why_16 rfl (J_aloadN (pq := 21) dX8_why_19 rfl rfl (J_ifnullN (tgt := 45) dX8_why_21 rfl (J_iconst (pq := 46) dX8_why_45 rfl c_iconst_m1 (J_iret dX8_why_46 rfl rfl ?_)))))))))))))
      exact ⟨rfl, rfl⟩
  · rw [Bool.not_eq_true] at hv
    by_cases hr : isin r 0 3 = true
    · obtain ⟨j, hj, rfl⟩ := (isK (n := 3) (by omega)).mp hr
      refine J_aload_n (pq := 1) dX8_why_0 rfl rfl (J_iload_n (pq := 2) dX8_why_1 rfl rfl (J_virtF (pq := 5) dX8_why_2 rfl (j_chipAt_no hK hX hn hn4 hv) rfl tg_X8_chipAt l_X8_142 vi_X8_chipAt (by first | exact hc0 | exact hd0 | exact hK.at rfl) ⟨by decide, rfl⟩ (Nat.le_of_ble_eq_true rfl) (Nat.zero_le _) (Nat.zero_le _) (Nat.le_of_ble_eq_true rfl) (J_astoreN (pq := 7) dX8_why_5 rfl (Nat.le_of_ble_eq_true rfl) (Nat.le_of_ble_eq_true rfl) rfl (J_aload_n (pq := 8) dX8_why_7 rfl rfl (J_iload_n (pq := 9) dX8_why_8 rfl rfl (J_virtF (pq := 12) dX8_why_9 rfl (j_recipeAt hK hX (by omega) (hgr j (by omega))) rfl tg_X8_recipeAt l_X8_179 vi_X8_recipeAt (by first | exact hc0 | exact hd0 | exact hK.at rfl) ⟨by decide, rfl⟩ (Nat.le_of_ble_eq_true rfl) (Nat.zero_le _) (Nat.zero_le _) (Nat.le_of_ble_eq_true rfl) (J_astore (pq := 14) dX8_why_12 rfl (Nat.le_of_ble_eq_true rfl) (Nat.le_of_ble_eq_true rfl) rfl (J_aloadN (pq := 16) dX8_why_14 rfl rfl (J_ifnullN (tgt := 45) dX8_why_16 rfl (J_iconst (pq := 46) dX8_why_45 rfl c_iconst_m1 (J_iret dX8_why_46 rfl rfl ?_)))))))))))
      exact ⟨rfl, rfl⟩
    · rw [Bool.not_eq_true] at hr
      refine J_aload_n (pq := 1) dX8_why_0 rfl rfl (J_iload_n (pq := 2) dX8_why_1 rfl rfl (J_virtF (pq := 5) dX8_why_2 rfl (j_chipAt_no hK hX hn hn4 hv) rfl tg_X8_chipAt l_X8_142 vi_X8_chipAt (by first | exact hc0 | exact hd0 | exact hK.at rfl) ⟨by decide, rfl⟩ (Nat.le_of_ble_eq_true rfl) (Nat.zero_le _) (Nat.zero_le _) (Nat.le_of_ble_eq_true rfl) (J_astoreN (pq := 7) dX8_why_5 rfl (Nat.le_of_ble_eq_true rfl) (Nat.le_of_ble_eq_true rfl) rfl (J_aload_n (pq := 8) dX8_why_7 rfl rfl (J_iload_n (pq := 9) dX8_why_8 rfl rfl (J_virtF (pq := 12) dX8_why_9 rfl (j_recipeAt_no hK hX hr) rfl tg_X8_recipeAt l_X8_179 vi_X8_recipeAt (by first | exact hc0 | exact hd0 | exact hK.at rfl) ⟨by decide, rfl⟩ (Nat.le_of_ble_eq_true rfl) (Nat.zero_le _) (Nat.zero_le _) (Nat.le_of_ble_eq_true rfl) (J_astoreN (pq := 14) dX8_why_12 rfl (Nat.le_of_ble_eq_true rfl) (Nat.le_of_ble_eq_true rfl) rfl (J_aloadN (pq := 16) dX8_why_14 rfl rfl (J_ifnullN (tgt := 45) dX8_why_16 rfl (J_iconst (pq := 46) dX8_why_45 rfl c_iconst_m1 (J_iret dX8_why_46 rfl rfl ?_)))))))))))
      exact ⟨rfl, rfl⟩
theorem j_X8_need_no {v a w : Int32} (hK : Kin h) (hX : XR h) (hn : gi h 0 7 = nI nc) (hn4 : nc ≤ 4) (hv : isin v 0 (nI nc - 1) = false) : JF x yX8_need cX8_need 5 (some .boolean) 2 0 0 [.ref 0, .int v, .int a, .int w] h (some (.int 0)) h := by
  refine JM_of [some (.ref 0), some (.int v), some (.int a), some (.int w), none] (by decide) (Nat.le_of_ble_eq_true rfl) rfl ?_
  refine J_aload_n (pq := 1) dX8_need_0 rfl rfl (J_iload_n (pq := 2) dX8_need_1 rfl rfl (J_virtF (pq := 5) dX8_need_2 rfl (j_chipAt_no hK hX hn hn4 hv) rfl tg_X8_chipAt l_X8_142 vi_X8_chipAt (by first | exact hc0 | exact hd0 | exact hK.at rfl) ⟨by decide, rfl⟩ (Nat.le_of_ble_eq_true rfl) (Nat.zero_le _) (Nat.zero_le _) (Nat.le_of_ble_eq_true rfl) (J_astoreN (pq := 7) dX8_need_5 rfl (Nat.le_of_ble_eq_true rfl) (Nat.le_of_ble_eq_true rfl) rfl (J_aloadN (pq := 9) dX8_need_7 rfl rfl (J_ifnullN (tgt := 36) dX8_need_9 rfl (J_iconst (pq := 37) dX8_need_36 rfl c_iconst_0 (J_iret dX8_need_37 rfl (by first | rfl | exact bi_nar _) ?_)))))))
  exact ⟨rfl, rfl⟩
theorem j_X8_need {i : Nat} {a w : Int32} (hK : Kin h) (hX : XR h) (hn : gi h 0 7 = nI nc) (hn4 : nc ≤ 4) (hi : i < nc) (hg : gr h 11 i = some q) (hC : CK h q s) : JF x yX8_need cX8_need 5 (some .boolean) 2 0 0 [.ref 0, .int (nI i), .int a, .int w] h (some (.int (bi (isin a 0 (nI (8 * s) - 1) && isin w 1 60)))) (if isin a 0 (nI (8 * s) - 1) && isin w 1 60 then si h (q + 5) (ix a) w else h) := by
  have hc0 := hC.1.1
  refine JM_of [some (.ref 0), some (.int (nI i)), some (.int a), some (.int w), none] (by decide) (Nat.le_of_ble_eq_true rfl) rfl ?_
  refine J_aload_n (pq := 1) dX8_need_0 rfl rfl (J_iload_n (pq := 2) dX8_need_1 rfl rfl (J_virtF (pq := 5) dX8_need_2 rfl (j_chipAt hK hX hn hn4 hi hg) rfl tg_X8_chipAt l_X8_142 vi_X8_chipAt (by first | exact hc0 | exact hd0 | exact hK.at rfl) ⟨by decide, rfl⟩ (Nat.le_of_ble_eq_true rfl) (Nat.zero_le _) (Nat.zero_le _) (Nat.le_of_ble_eq_true rfl) (J_astore (pq := 7) dX8_need_5 rfl (Nat.le_of_ble_eq_true rfl) (Nat.le_of_ble_eq_true rfl) rfl (J_aload (pq := 9) dX8_need_7 rfl rfl (J_ifnull (pq := 12) dX8_need_9 rfl (J_iload_n (pq := 13) dX8_need_12 rfl rfl (J_iconst (pq := 14) dX8_need_13 rfl c_iconst_1 (J_bipush (pq := 16) dX8_need_14 rfl c_bipush_60 (J_statF (pq := 19) dX8_need_16 rfl (j_X8_isWithin) rfl tg_X8_isWithin l_X8_87 st_X8_isWithin (Nat.le_of_ble_eq_true rfl) (Nat.zero_le _) (Nat.zero_le _) (Nat.le_of_ble_eq_true rfl) (J_if_eq (pq := 22) (tgt := 36) dX8_need_19 rfl rfl (fun c => ?_) (fun c => ?_)))))))))))
  · rw [bi_0] at c
    refine J_iconst (pq := 37) dX8_need_36 rfl c_iconst_0 (J_iret dX8_need_37 rfl (by first | rfl | exact bi_nar _) ?_)
    rw [c, Bool.and_false]
    exact ⟨rfl, rfl⟩
  · rw [bi_0, Bool.not_eq_false] at c
    rw [c, Bool.and_true]
    refine J_aload (pq := 24) dX8_need_22 rfl rfl (J_iload_n (pq := 25) dX8_need_24 rfl rfl (J_iload_n (pq := 26) dX8_need_25 rfl rfl (J_virtF (pq := 29) dX8_need_26 rfl (j_X0_setNeed hC) rfl tg_X0_setNeed l_X8_146 vi_X0_setNeed (by first | exact hc0 | exact hd0 | exact hK.at rfl) ⟨by decide, rfl⟩ (Nat.le_of_ble_eq_true rfl) (Nat.zero_le _) (Nat.zero_le _) (Nat.le_of_ble_eq_true rfl) (J_if_eq (pq := 32) (tgt := 36) dX8_need_29 rfl rfl (fun c => ?_) (fun c => ?_)))))
    · rw [bi_0] at c
      refine J_iconst (pq := 37) dX8_need_36 rfl c_iconst_0 (J_iret dX8_need_37 rfl (by first | rfl | exact bi_nar _) ?_)
      rw [c]
      exact ⟨rfl, rfl⟩
    · rw [bi_0, Bool.not_eq_false] at c
      refine J_iconst (pq := 33) dX8_need_32 rfl c_iconst_1 (J_goto (tgt := 37) dX8_need_33 rfl (J_iret dX8_need_37 rfl (by first | rfl | exact bi_nar _) ?_))
      rw [c]
      exact ⟨rfl, rfl⟩
theorem j_X8_bad_no {v a w : Int32} (hK : Kin h) (hX : XR h) (hn : gi h 0 7 = nI nc) (hn4 : nc ≤ 4) (hv : isin v 0 (nI nc - 1) = false) : JF x yX8_bad cX8_bad 5 (some .boolean) 2 0 0 [.ref 0, .int v, .int a, .int w] h (some (.int 0)) h := by
  refine JM_of [some (.ref 0), some (.int v), some (.int a), some (.int w), none] (by decide) (Nat.le_of_ble_eq_true rfl) rfl ?_
  refine J_aload_n (pq := 1) dX8_bad_0 rfl rfl (J_iload_n (pq := 2) dX8_bad_1 rfl rfl (J_virtF (pq := 5) dX8_bad_2 rfl (j_chipAt_no hK hX hn hn4 hv) rfl tg_X8_chipAt l_X8_142 vi_X8_chipAt (by first | exact hc0 | exact hd0 | exact hK.at rfl) ⟨by decide, rfl⟩ (Nat.le_of_ble_eq_true rfl) (Nat.zero_le _) (Nat.zero_le _) (Nat.le_of_ble_eq_true rfl) (J_astoreN (pq := 7) dX8_bad_5 rfl (Nat.le_of_ble_eq_true rfl) (Nat.le_of_ble_eq_true rfl) rfl (J_aloadN (pq := 9) dX8_bad_7 rfl rfl (J_ifnullN (tgt := 26) dX8_bad_9 rfl (J_iconst (pq := 27) dX8_bad_26 rfl c_iconst_0 (J_iret dX8_bad_27 rfl (by first | rfl | exact bi_nar _) ?_)))))))
  exact ⟨rfl, rfl⟩
theorem j_X8_bad {i : Nat} {a w : Int32} (hK : Kin h) (hX : XR h) (hn : gi h 0 7 = nI nc) (hn4 : nc ≤ 4) (hi : i < nc) (hg : gr h 11 i = some q) (hC : CK h q s) : JF x yX8_bad cX8_bad 5 (some .boolean) 2 0 0 [.ref 0, .int (nI i), .int a, .int w] h (some (.int (bi (isin a 0 (nI s - 1))))) (if isin a 0 (nI s - 1) then si h (q + 1) (ix a) (w &&& 1) else h) := by
  have hc0 := hC.1.1
  refine JM_of [some (.ref 0), some (.int (nI i)), some (.int a), some (.int w), none] (by decide) (Nat.le_of_ble_eq_true rfl) rfl ?_
  refine J_aload_n (pq := 1) dX8_bad_0 rfl rfl (J_iload_n (pq := 2) dX8_bad_1 rfl rfl (J_virtF (pq := 5) dX8_bad_2 rfl (j_chipAt hK hX hn hn4 hi hg) rfl tg_X8_chipAt l_X8_142 vi_X8_chipAt (by first | exact hc0 | exact hd0 | exact hK.at rfl) ⟨by decide, rfl⟩ (Nat.le_of_ble_eq_true rfl) (Nat.zero_le _) (Nat.zero_le _) (Nat.le_of_ble_eq_true rfl) (J_astore (pq := 7) dX8_bad_5 rfl (Nat.le_of_ble_eq_true rfl) (Nat.le_of_ble_eq_true rfl) rfl (J_aload (pq := 9) dX8_bad_7 rfl rfl (J_ifnull (pq := 12) dX8_bad_9 rfl (J_aload (pq := 14) dX8_bad_12 rfl rfl (J_iload_n (pq := 15) dX8_bad_14 rfl rfl (J_iload_n (pq := 16) dX8_bad_15 rfl rfl (J_virtF (pq := 19) dX8_bad_16 rfl (j_X0_setBad hC) rfl tg_X0_setBad l_X8_150 vi_X0_setBad (by first | exact hc0 | exact hd0 | exact hK.at rfl) ⟨by decide, rfl⟩ (Nat.le_of_ble_eq_true rfl) (Nat.zero_le _) (Nat.zero_le _) (Nat.le_of_ble_eq_true rfl) (J_if_eq (pq := 22) (tgt := 26) dX8_bad_19 rfl rfl (fun c => ?_) (fun c => ?_)))))))))))
  · rw [bi_0] at c
    refine J_iconst (pq := 27) dX8_bad_26 rfl c_iconst_0 (J_iret dX8_bad_27 rfl (by first | rfl | exact bi_nar _) ?_)
    rw [c]
    exact ⟨rfl, rfl⟩
  · rw [bi_0, Bool.not_eq_false] at c
    refine J_iconst (pq := 23) dX8_bad_22 rfl c_iconst_1 (J_goto (tgt := 27) dX8_bad_23 rfl (J_iret dX8_bad_27 rfl (by first | rfl | exact bi_nar _) ?_))
    rw [c]
    exact ⟨rfl, rfl⟩
theorem j_X8_contact_no {v a w : Int32} (hK : Kin h) (hX : XR h) (hn : gi h 0 7 = nI nc) (hn4 : nc ≤ 4) (hv : isin v 0 (nI nc - 1) = false) : JF x yX8_contact cX8_contact 5 (some .boolean) 2 0 0 [.ref 0, .int v, .int a, .int w] h (some (.int 0)) h := by
  refine JM_of [some (.ref 0), some (.int v), some (.int a), some (.int w), none] (by decide) (Nat.le_of_ble_eq_true rfl) rfl ?_
  refine J_aload_n (pq := 1) dX8_contact_0 rfl rfl (J_iload_n (pq := 2) dX8_contact_1 rfl rfl (J_virtF (pq := 5) dX8_contact_2 rfl (j_chipAt_no hK hX hn hn4 hv) rfl tg_X8_chipAt l_X8_142 vi_X8_chipAt (by first | exact hc0 | exact hd0 | exact hK.at rfl) ⟨by decide, rfl⟩ (Nat.le_of_ble_eq_true rfl) (Nat.zero_le _) (Nat.zero_le _) (Nat.le_of_ble_eq_true rfl) (J_astoreN (pq := 7) dX8_contact_5 rfl (Nat.le_of_ble_eq_true rfl) (Nat.le_of_ble_eq_true rfl) rfl (J_aloadN (pq := 9) dX8_contact_7 rfl rfl (J_ifnullN (tgt := 26) dX8_contact_9 rfl (J_iconst (pq := 27) dX8_contact_26 rfl c_iconst_0 (J_iret dX8_contact_27 rfl (by first | rfl | exact bi_nar _) ?_)))))))
  exact ⟨rfl, rfl⟩
theorem j_X8_contact {i : Nat} {a w : Int32} (hK : Kin h) (hX : XR h) (hn : gi h 0 7 = nI nc) (hn4 : nc ≤ 4) (hi : i < nc) (hg : gr h 11 i = some q) (hC : CK h q s) : JF x yX8_contact cX8_contact 5 (some .boolean) 2 0 0 [.ref 0, .int (nI i), .int a, .int w] h (some (.int (bi (isin a 0 27)))) (if isin a 0 27 then si h (q + 2) (ix a) (bi (decide (w = 0))) else h) := by
  have hc0 := hC.1.1
  refine JM_of [some (.ref 0), some (.int (nI i)), some (.int a), some (.int w), none] (by decide) (Nat.le_of_ble_eq_true rfl) rfl ?_
  refine J_aload_n (pq := 1) dX8_contact_0 rfl rfl (J_iload_n (pq := 2) dX8_contact_1 rfl rfl (J_virtF (pq := 5) dX8_contact_2 rfl (j_chipAt hK hX hn hn4 hi hg) rfl tg_X8_chipAt l_X8_142 vi_X8_chipAt (by first | exact hc0 | exact hd0 | exact hK.at rfl) ⟨by decide, rfl⟩ (Nat.le_of_ble_eq_true rfl) (Nat.zero_le _) (Nat.zero_le _) (Nat.le_of_ble_eq_true rfl) (J_astore (pq := 7) dX8_contact_5 rfl (Nat.le_of_ble_eq_true rfl) (Nat.le_of_ble_eq_true rfl) rfl (J_aload (pq := 9) dX8_contact_7 rfl rfl (J_ifnull (pq := 12) dX8_contact_9 rfl (J_aload (pq := 14) dX8_contact_12 rfl rfl (J_iload_n (pq := 15) dX8_contact_14 rfl rfl (J_iload_n (pq := 16) dX8_contact_15 rfl rfl (J_virtF (pq := 19) dX8_contact_16 rfl (j_X0_setContact hC) rfl tg_X0_setContact l_X8_154 vi_X0_setContact (by first | exact hc0 | exact hd0 | exact hK.at rfl) ⟨by decide, rfl⟩ (Nat.le_of_ble_eq_true rfl) (Nat.zero_le _) (Nat.zero_le _) (Nat.le_of_ble_eq_true rfl) (J_if_eq (pq := 22) (tgt := 26) dX8_contact_19 rfl rfl (fun c => ?_) (fun c => ?_)))))))))))
  · rw [bi_0] at c
    refine J_iconst (pq := 27) dX8_contact_26 rfl c_iconst_0 (J_iret dX8_contact_27 rfl (by first | rfl | exact bi_nar _) ?_)
    rw [c]
    exact ⟨rfl, rfl⟩
  · rw [bi_0, Bool.not_eq_false] at c
    refine J_iconst (pq := 23) dX8_contact_22 rfl c_iconst_1 (J_goto (tgt := 27) dX8_contact_23 rfl (J_iret dX8_contact_27 rfl (by first | rfl | exact bi_nar _) ?_))
    rw [c]
    exact ⟨rfl, rfl⟩
theorem j_X8_erase_no {v : Int32} (hK : Kin h) (hX : XR h) (hn : gi h 0 7 = nI nc) (hn4 : nc ≤ 4) (hv : isin v 0 (nI nc - 1) = false) : JF x yX8_erase cX8_erase 3 (some .int) 2 0 0 [.ref 0, .int v] h (some (.int (-1))) h := by
  refine JM_of [some (.ref 0), some (.int v), none] (by decide) (Nat.le_of_ble_eq_true rfl) rfl ?_
  refine J_aload_n (pq := 1) dX8_erase_0 rfl rfl (J_iload_n (pq := 2) dX8_erase_1 rfl rfl (J_virtF (pq := 5) dX8_erase_2 rfl (j_chipAt_no hK hX hn hn4 hv) rfl tg_X8_chipAt l_X8_142 vi_X8_chipAt (by first | exact hc0 | exact hd0 | exact hK.at rfl) ⟨by decide, rfl⟩ (Nat.le_of_ble_eq_true rfl) (Nat.zero_le _) (Nat.zero_le _) (Nat.le_of_ble_eq_true rfl) (J_astore_mN 2 (pq := 6) dX8_erase_5 rfl rfl (Nat.le_of_ble_eq_true rfl) (Nat.le_of_ble_eq_true rfl) rfl (J_aload_nN (pq := 7) dX8_erase_6 rfl rfl (J_ifnullN (tgt := 17) dX8_erase_7 rfl (J_iconst (pq := 18) dX8_erase_17 rfl c_iconst_m1 (J_iret dX8_erase_18 rfl rfl ?_)))))))
  exact ⟨rfl, rfl⟩
def xWipe (h : JH) (q s : Nat) : JH := if gi h q 7 < gi h q 15 + 1 then incN (xWipe0 h q s) (q + 5) (8 * s) else xWipe0 h q s
theorem xWipe_15 : gi (xWipe h q s) q 15 = gi h q 15 + 1 := by
  have e15 : gi (xWipe0 h q s) q 15 = gi h q 15 + 1 := by simp [xWipe0, gi_fillN, gi_si]
  unfold xWipe
  split
  · rw [gi_incN, if_neg (by omega), e15]
  · exact e15
theorem xWipe_2 : (xWipe h q s).2 = h.2 := by unfold xWipe; split <;> rfl
theorem j_X8_erase {i : Nat} (hK : Kin h) (hX : XR h) (hn : gi h 0 7 = nI nc) (hn4 : nc ≤ 4) (hi : i < nc) (hg : gr h 11 i = some q) (hC : CK h q s) : JF x yX8_erase cX8_erase 3 (some .int) 2 0 0 [.ref 0, .int (nI i)] h (some (.int (if gi h q 2 = 0 then -1 else gi h q 15 + 1))) (if gi h q 2 = 0 then h else xWipe h q s) := by
  have hc0 := hC.1.1
  refine JM_of [some (.ref 0), some (.int (nI i)), none] (by decide) (Nat.le_of_ble_eq_true rfl) rfl ?_
  refine J_aload_n (pq := 1) dX8_erase_0 rfl rfl (J_iload_n (pq := 2) dX8_erase_1 rfl rfl (J_virtF (pq := 5) dX8_erase_2 rfl (j_chipAt hK hX hn hn4 hi hg) rfl tg_X8_chipAt l_X8_142 vi_X8_chipAt (by first | exact hc0 | exact hd0 | exact hK.at rfl) ⟨by decide, rfl⟩ (Nat.le_of_ble_eq_true rfl) (Nat.zero_le _) (Nat.zero_le _) (Nat.le_of_ble_eq_true rfl) (J_astore_m 2 (pq := 6) dX8_erase_5 rfl rfl (Nat.le_of_ble_eq_true rfl) (Nat.le_of_ble_eq_true rfl) rfl (J_aload_n (pq := 7) dX8_erase_6 rfl rfl (J_ifnull (pq := 10) dX8_erase_7 rfl (J_aload_n (pq := 11) dX8_erase_10 rfl rfl (J_getI (pq := 14) dX8_erase_11 rfl f_X8_157 jsZ (by first | exact hc0 | exact hd0 | exact hK.at rfl) (J_if_ne (pq := 17) (tgt := 19) dX8_erase_14 rfl rfl (fun c => ?_) (fun c => ?_)))))))))
  · rw [if_neg c, if_neg c]
    have hc1 : (kd (xWipe h q s))[q]? = some (0, 17) := by
      show (xWipe h q s).2.2.2[q]? = _
      rw [xWipe_2]; exact hc0
    refine J_aload_n (pq := 20) dX8_erase_19 rfl rfl (J_virtF (pq := 23) dX8_erase_20 rfl (j_X0_wipe hC) rfl tg_X0_wipe l_X8_161 vi_X0_wipe (by first | exact hc0 | exact hd0 | exact hK.at rfl) ⟨by decide, rfl⟩ (Nat.le_of_ble_eq_true rfl) (Nat.zero_le _) (Nat.zero_le _) (Nat.le_of_ble_eq_true rfl) (?_))
    show J x yX8_erase cX8_erase 3 (some .int) 2 0 0 _ 23 _ _ (xWipe h q s)
    refine J_aload_n (pq := 24) dX8_erase_23 rfl rfl (J_getI (pq := 27) dX8_erase_24 rfl f_X8_164 jsI hc1 (J_iret dX8_erase_27 rfl rfl ?_))
    exact ⟨by rw [xWipe_15], rfl⟩
  · rw [if_pos c, if_pos c]
    refine J_iconst (pq := 18) dX8_erase_17 rfl c_iconst_m1 (J_iret dX8_erase_18 rfl rfl ?_)
    exact ⟨rfl, rfl⟩
theorem j_X8_chipOf_no {v w : Int32} (hK : Kin h) (hX : XR h) (hn : gi h 0 7 = nI nc) (hn4 : nc ≤ 4) (hv : isin v 0 (nI nc - 1) = false) : JF x yX8_chipOf cX8_chipOf 4 (some .int) 3 0 0 [.ref 0, .int v, .int w] h (some (.int (-1))) h := by
  refine JM_of [some (.ref 0), some (.int v), some (.int w), none] (by decide) (Nat.le_of_ble_eq_true rfl) rfl ?_
  refine J_aload_n (pq := 1) dX8_chipOf_0 rfl rfl (J_iload_n (pq := 2) dX8_chipOf_1 rfl rfl (J_virtF (pq := 5) dX8_chipOf_2 rfl (j_chipAt_no hK hX hn hn4 hv) rfl tg_X8_chipAt l_X8_142 vi_X8_chipAt (by first | exact hc0 | exact hd0 | exact hK.at rfl) ⟨by decide, rfl⟩ (Nat.le_of_ble_eq_true rfl) (Nat.zero_le _) (Nat.zero_le _) (Nat.le_of_ble_eq_true rfl) (J_astore_mN 3 (pq := 6) dX8_chipOf_5 rfl rfl (Nat.le_of_ble_eq_true rfl) (Nat.le_of_ble_eq_true rfl) rfl (J_aload_nN (pq := 7) dX8_chipOf_6 rfl rfl (J_ifnullN (tgt := 14) dX8_chipOf_7 rfl (J_iconst (pq := 15) dX8_chipOf_14 rfl c_iconst_m1 (J_iret dX8_chipOf_15 rfl rfl ?_)))))))
  exact ⟨rfl, rfl⟩
theorem j_X8_chipOf_neg {i : Nat} {w : Int32} (hK : Kin h) (hX : XR h) (hn : gi h 0 7 = nI nc) (hn4 : nc ≤ 4) (hi : i < nc) (hg : gr h 11 i = some q) (hw : w < 0) : JF x yX8_chipOf cX8_chipOf 4 (some .int) 3 0 0 [.ref 0, .int (nI i), .int w] h (some (.int (-1))) h := by
  refine JM_of [some (.ref 0), some (.int (nI i)), some (.int w), none] (by decide) (Nat.le_of_ble_eq_true rfl) rfl ?_
  refine J_aload_n (pq := 1) dX8_chipOf_0 rfl rfl (J_iload_n (pq := 2) dX8_chipOf_1 rfl rfl (J_virtF (pq := 5) dX8_chipOf_2 rfl (j_chipAt hK hX hn hn4 hi hg) rfl tg_X8_chipAt l_X8_142 vi_X8_chipAt (by first | exact hc0 | exact hd0 | exact hK.at rfl) ⟨by decide, rfl⟩ (Nat.le_of_ble_eq_true rfl) (Nat.zero_le _) (Nat.zero_le _) (Nat.le_of_ble_eq_true rfl) (J_astore_m 3 (pq := 6) dX8_chipOf_5 rfl rfl (Nat.le_of_ble_eq_true rfl) (Nat.le_of_ble_eq_true rfl) rfl (J_aload_n (pq := 7) dX8_chipOf_6 rfl rfl (J_ifnull (pq := 10) dX8_chipOf_7 rfl (J_iload_n (pq := 11) dX8_chipOf_10 rfl rfl (J_if_ge (pq := 14) (tgt := 16) dX8_chipOf_11 rfl rfl (fun c => ?_) (fun c => ?_))))))))
  · exact absurd hw (i_nlt.mpr c)
  · refine J_iconst (pq := 15) dX8_chipOf_14 rfl c_iconst_m1 (J_iret dX8_chipOf_15 rfl rfl ?_)
    exact ⟨rfl, rfl⟩
theorem j_X8_chipOf {i n : Nat} (hK : Kin h) (hX : XR h) (hn : gi h 0 7 = nI nc) (hn4 : nc ≤ 4) (hi : i < nc) (hg : gr h 11 i = some q) (hC : CK h q s) (hw : n < 2147483648) : JF x yX8_chipOf cX8_chipOf 4 (some .int) 3 0 0 [.ref 0, .int (nI i), .int (nI n)] h (some (.int (if n < 100 then xProp h q s (nI n) else xCell h q s (n / 100) (n % 100)))) h := by
  have hc0 := hC.1.1
  refine JM_of [some (.ref 0), some (.int (nI i)), some (.int (nI n)), none] (by decide) (Nat.le_of_ble_eq_true rfl) rfl ?_
  refine J_aload_n (pq := 1) dX8_chipOf_0 rfl rfl (J_iload_n (pq := 2) dX8_chipOf_1 rfl rfl (J_virtF (pq := 5) dX8_chipOf_2 rfl (j_chipAt hK hX hn hn4 hi hg) rfl tg_X8_chipAt l_X8_142 vi_X8_chipAt (by first | exact hc0 | exact hd0 | exact hK.at rfl) ⟨by decide, rfl⟩ (Nat.le_of_ble_eq_true rfl) (Nat.zero_le _) (Nat.zero_le _) (Nat.le_of_ble_eq_true rfl) (J_astore_m 3 (pq := 6) dX8_chipOf_5 rfl rfl (Nat.le_of_ble_eq_true rfl) (Nat.le_of_ble_eq_true rfl) rfl (J_aload_n (pq := 7) dX8_chipOf_6 rfl rfl (J_ifnull (pq := 10) dX8_chipOf_7 rfl (J_iload_n (pq := 11) dX8_chipOf_10 rfl rfl (J_if_ge (pq := 14) (tgt := 16) dX8_chipOf_11 rfl rfl (fun c => ?_) (fun c => ?_))))))))
  · refine J_iload_n (pq := 17) dX8_chipOf_16 rfl rfl (J_bipush (pq := 19) dX8_chipOf_17 rfl c_bipush_100 (J_icmp_ge (pq := 22) (tgt := 30) dX8_chipOf_19 rfl rfl (fun c => ?_) (fun c => ?_)))
    · rw [show (100 : Int32) = nI 100 from rfl, nI_leI (by omega) (by omega)] at c
      rw [if_neg (by omega)]
      refine J_aload_n (pq := 31) dX8_chipOf_30 rfl rfl (J_iload_n (pq := 32) dX8_chipOf_31 rfl rfl (J_bipush (pq := 34) dX8_chipOf_32 rfl c_bipush_100 (J_idiv (pq := 35) dX8_chipOf_34 rfl (by decide) (J_iload_n (pq := 36) dX8_chipOf_35 rfl rfl (J_bipush (pq := 38) dX8_chipOf_36 rfl c_bipush_100 (J_irem (pq := 39) dX8_chipOf_38 rfl (by decide) (?_)))))))
      rw [show (100 : Int32) = nI 100 from rfl, pk_rem hw (by omega) (by omega), pk_div hw (by omega) (by omega)]
      refine J_virtF (pq := 42) dX8_chipOf_39 rfl (j_X0_cell hC (by omega) (by omega)) rfl tg_X0_cell l_X8_170 vi_X0_cell (by first | exact hc0 | exact hd0 | exact hK.at rfl) ⟨by decide, rfl⟩ (Nat.le_of_ble_eq_true rfl) (Nat.zero_le _) (Nat.zero_le _) (Nat.le_of_ble_eq_true rfl) (J_iret dX8_chipOf_42 rfl rfl ?_)
      exact ⟨rfl, rfl⟩
    · rw [show (100 : Int32) = nI 100 from rfl, nI_leI (by omega) (by omega)] at c
      rw [if_pos (by omega)]
      refine J_aload_n (pq := 23) dX8_chipOf_22 rfl rfl (J_iload_n (pq := 24) dX8_chipOf_23 rfl rfl (J_virtF (pq := 27) dX8_chipOf_24 rfl (j_X0_property hC) rfl tg_X0_property l_X8_167 vi_X0_property (by first | exact hc0 | exact hd0 | exact hK.at rfl) ⟨by decide, rfl⟩ (Nat.le_of_ble_eq_true rfl) (Nat.zero_le _) (Nat.zero_le _) (Nat.le_of_ble_eq_true rfl) (J_goto (tgt := 42) dX8_chipOf_27 rfl (J_iret dX8_chipOf_42 rfl rfl ?_))))
      exact ⟨rfl, rfl⟩
  · rw [show (0 : Int32) = nI 0 from rfl, nI_leI (by omega) (by omega)] at c; omega
def xWr (h : JH) (q s f w : Nat) : Nat → Nat
  | 0 => 0
  | k + 1 => xWr h q s f w k + (if xRt q (xAdr h q s k) (gi h 3 (f + w * k)) h = true then 0 else 1)
theorem xWr_le (h : JH) (q s f w : Nat) : ∀ k, xWr h q s f w k ≤ k
  | 0 => Nat.le_refl _
  | k + 1 => by have := xWr_le h q s f w k; simp only [xWr]; split <;> omega
theorem j_X8_wrong_no {v f w : Int32} {cq : Nat → Nat} (hK : Kin h) (hX : XR h) (hn : gi h 0 7 = nI nc) (hn4 : nc ≤ 4) (hg : ∀ i, i < nc → gr h 11 i = some (cq i)) (ho : (isin v 0 (nI nc - 1) && (isin f 0 255 && isin w 1 8)) = false) : JF x yX8_wrong cX8_wrong 8 (some .int) 3 0 0 [.ref 0, .int v, .int f, .int w] h (some (.int (-1))) h := by
  refine JM_of [some (.ref 0), some (.int v), some (.int f), some (.int w), none, none, none, none] (by decide) (Nat.le_of_ble_eq_true rfl) rfl ?_
  by_cases hv : isin v 0 (nI nc - 1) = true
  · rw [hv, Bool.true_and] at ho
    obtain ⟨i, hi, rfl⟩ := (isinN (by omega)).mp hv
    refine J_aload_n (pq := 1) dX8_wrong_0 rfl rfl (J_iload_n (pq := 2) dX8_wrong_1 rfl rfl (J_virtF (pq := 5) dX8_wrong_2 rfl (j_chipAt hK hX hn hn4 hi (hg i hi)) rfl tg_X8_chipAt l_X8_142 vi_X8_chipAt (by first | exact hc0 | exact hd0 | exact hK.at rfl) ⟨by decide, rfl⟩ (Nat.le_of_ble_eq_true rfl) (Nat.zero_le _) (Nat.zero_le _) (Nat.le_of_ble_eq_true rfl) (J_astore (pq := 7) dX8_wrong_5 rfl (Nat.le_of_ble_eq_true rfl) (Nat.le_of_ble_eq_true rfl) rfl (J_aload (pq := 9) dX8_wrong_7 rfl rfl (J_ifnull (pq := 12) dX8_wrong_9 rfl (J_iload_n (pq := 13) dX8_wrong_12 rfl rfl (J_iload_n (pq := 14) dX8_wrong_13 rfl rfl (J_statF (pq := 17) dX8_wrong_14 rfl (j_X8_isPart) rfl tg_X8_isPart l_X8_192 st_X8_isPart (Nat.le_of_ble_eq_true rfl) (Nat.zero_le _) (Nat.zero_le _) (Nat.le_of_ble_eq_true rfl) (J_if_ne (pq := 20) (tgt := 22) dX8_wrong_17 rfl rfl (fun c => ?_) (fun c => ?_))))))))))
    · rw [ho] at c; exact absurd rfl c
    · refine J_iconst (pq := 21) dX8_wrong_20 rfl c_iconst_m1 (J_iret dX8_wrong_21 rfl rfl ?_)
      exact ⟨rfl, rfl⟩
  · rw [Bool.not_eq_true] at hv
    refine J_aload_n (pq := 1) dX8_wrong_0 rfl rfl (J_iload_n (pq := 2) dX8_wrong_1 rfl rfl (J_virtF (pq := 5) dX8_wrong_2 rfl (j_chipAt_no hK hX hn hn4 hv) rfl tg_X8_chipAt l_X8_142 vi_X8_chipAt (by first | exact hc0 | exact hd0 | exact hK.at rfl) ⟨by decide, rfl⟩ (Nat.le_of_ble_eq_true rfl) (Nat.zero_le _) (Nat.zero_le _) (Nat.le_of_ble_eq_true rfl) (J_astoreN (pq := 7) dX8_wrong_5 rfl (Nat.le_of_ble_eq_true rfl) (Nat.le_of_ble_eq_true rfl) rfl (J_aloadN (pq := 9) dX8_wrong_7 rfl rfl (J_ifnullN (tgt := 20) dX8_wrong_9 rfl (J_iconst (pq := 21) dX8_wrong_20 rfl c_iconst_m1 (J_iret dX8_wrong_21 rfl rfl ?_)))))))
    exact ⟨rfl, rfl⟩
theorem j_X8_wrong {i f w : Nat} (hK : Kin h) (hX : XR h) (hn : gi h 0 7 = nI nc) (hn4 : nc ≤ 4) (hi : i < nc) (hg : gr h 11 i = some q) (hC : CK h q s) (hf : f ≤ 255) (hw : 1 ≤ w ∧ w ≤ 8) : JF x yX8_wrong cX8_wrong 8 (some .int) 3 0 0 [.ref 0, .int (nI i), .int (nI f), .int (nI w)] h (some (.int (nI (xWr h q s f w (xRch h q s f w))))) h := by
  have hc0 := hC.1.1
  have hs2 := hC.2.2.2.2
  have hgl := goodc_le (xBad h q) s
  have hnn : xRch h q s f w ≤ (255 - f) / w + 1 := Nat.min_le_right _ _
  have hn2 : xRch h q s f w ≤ 8 * goodc (xBad h q) s := Nat.min_le_left _ _
  refine JM_of [some (.ref 0), some (.int (nI i)), some (.int (nI f)), some (.int (nI w)), none, none, none, none] (by decide) (Nat.le_of_ble_eq_true rfl) rfl ?_
  refine J_aload_n (pq := 1) dX8_wrong_0 rfl rfl (J_iload_n (pq := 2) dX8_wrong_1 rfl rfl (J_virtF (pq := 5) dX8_wrong_2 rfl (j_chipAt hK hX hn hn4 hi hg) rfl tg_X8_chipAt l_X8_142 vi_X8_chipAt (by first | exact hc0 | exact hd0 | exact hK.at rfl) ⟨by decide, rfl⟩ (Nat.le_of_ble_eq_true rfl) (Nat.zero_le _) (Nat.zero_le _) (Nat.le_of_ble_eq_true rfl) (J_astore (pq := 7) dX8_wrong_5 rfl (Nat.le_of_ble_eq_true rfl) (Nat.le_of_ble_eq_true rfl) rfl (J_aload (pq := 9) dX8_wrong_7 rfl rfl (J_ifnull (pq := 12) dX8_wrong_9 rfl (J_iload_n (pq := 13) dX8_wrong_12 rfl rfl (J_iload_n (pq := 14) dX8_wrong_13 rfl rfl (J_statF (pq := 17) dX8_wrong_14 rfl (j_X8_isPart) rfl tg_X8_isPart l_X8_192 st_X8_isPart (Nat.le_of_ble_eq_true rfl) (Nat.zero_le _) (Nat.zero_le _) (Nat.le_of_ble_eq_true rfl) (J_if_ne (pq := 20) (tgt := 22) dX8_wrong_17 rfl rfl (fun c => ?_) (fun c => ?_))))))))))
  · refine J_iconst (pq := 23) dX8_wrong_22 rfl c_iconst_0 (J_istore (pq := 25) dX8_wrong_23 rfl (Nat.le_of_ble_eq_true rfl) (Nat.le_of_ble_eq_true rfl) rfl (J_aload (pq := 27) dX8_wrong_25 rfl rfl (J_iload_n (pq := 28) dX8_wrong_27 rfl rfl (J_iload_n (pq := 29) dX8_wrong_28 rfl rfl (J_statF (pq := 32) dX8_wrong_29 rfl (j_reach hC hf hw) rfl tg_X8_reachOf l_X8_205 st_X8_reachOf (Nat.le_of_ble_eq_true rfl) (Nat.zero_le _) (Nat.zero_le _) (Nat.le_of_ble_eq_true rfl) (J_istore (pq := 34) dX8_wrong_32 rfl (Nat.le_of_ble_eq_true rfl) (Nat.le_of_ble_eq_true rfl) rfl (J_iconst (pq := 35) dX8_wrong_34 rfl c_iconst_0 (J_istore (pq := 37) dX8_wrong_35 rfl (Nat.le_of_ble_eq_true rfl) (Nat.le_of_ble_eq_true rfl) rfl (?_)))))))))
    refine J_loop (σ := Nat) (fun k => [some (.ref 0), some (.int (nI i)), some (.int (nI f)), some (.int (nI w)), some (.ref q), some (.int (nI (xWr h q s f w k))), some (.int (nI (xRch h q s f w))), some (.int (nI k))]) (fun _ => []) (fun _ => h) (fun k => k ≤ xRch h q s f w) (fun k => xRch h q s f w - k) 0 rfl rfl rfl (Nat.zero_le _) (fun k k1 ih => ?_)
    refine J_iload (pq := 39) dX8_wrong_37 rfl rfl (J_iload (pq := 41) dX8_wrong_39 rfl rfl (J_icmp_ge (pq := 44) (tgt := 78) dX8_wrong_41 rfl rfl (fun c => ?_) (fun c => ?_)))
    · rw [nI_leI (by omega) (by omega)] at c
      refine J_iload (pq := 80) dX8_wrong_78 rfl rfl (J_iret dX8_wrong_80 rfl rfl ?_)
      rw [show k = xRch h q s f w by omega]
      exact ⟨rfl, rfl⟩
    · rw [nI_leI (by omega) (by omega)] at c
      have hk : k < xRch h q s f w := Nat.lt_of_not_le c
      have hfw := fw_le hf hnn hk
      have hal := xAdr_lt (h := h) (q := q) (s := s) (Nat.lt_of_lt_of_le hk hn2)
      refine J_aload (pq := 46) dX8_wrong_44 rfl rfl (J_aload (pq := 48) dX8_wrong_46 rfl rfl (J_iload (pq := 50) dX8_wrong_48 rfl rfl (J_virtF (pq := 53) dX8_wrong_50 rfl (j_X0_addressOf hC (by omega)) rfl tg_X0_addressOf l_X8_212 vi_X0_addressOf (by first | exact hc0 | exact hd0 | exact hK.at rfl) ⟨by decide, rfl⟩ (Nat.le_of_ble_eq_true rfl) (Nat.zero_le _) (Nat.zero_le _) (Nat.le_of_ble_eq_true rfl) (?_))))
      rw [if_pos (Nat.lt_of_lt_of_le hk hn2)]
      refine J_aload_n (pq := 54) dX8_wrong_53 rfl rfl (J_iload_n (pq := 55) dX8_wrong_54 rfl rfl (J_iload_n (pq := 56) dX8_wrong_55 rfl rfl (J_iload (pq := 58) dX8_wrong_56 rfl rfl (J_imul (pq := 59) dX8_wrong_58 rfl (J_iadd (pq := 60) dX8_wrong_59 rfl (?_))))))
      rw [im_n]
      have hst : xWr h q s f w (k + 1) = xWr h q s f w k + (if xRt q (xAdr h q s k) (gi h 3 (f + w * k)) h = true then 0 else 1) := rfl
      refine J_virtF (pq := 63) dX8_wrong_60 rfl (j_img hK hX hfw) rfl tg_X8_image l_X8_215 vi_X8_image (by first | exact hc0 | exact hd0 | exact hK.at rfl) ⟨by decide, rfl⟩ (Nat.le_of_ble_eq_true rfl) (Nat.zero_le _) (Nat.zero_le _) (Nat.le_of_ble_eq_true rfl) (J_virtF (pq := 66) dX8_wrong_63 rfl (j_X0_isRight hC hal) rfl tg_X0_isRight l_X8_218 vi_X0_isRight (by first | exact hc0 | exact hd0 | exact hK.at rfl) ⟨by decide, rfl⟩ (Nat.le_of_ble_eq_true rfl) (Nat.zero_le _) (Nat.zero_le _) (Nat.le_of_ble_eq_true rfl) (J_if_ne (pq := 69) (tgt := 72) dX8_wrong_66 rfl rfl (fun c => ?_) (fun c => ?_)))
      · rw [bi_0, Bool.not_eq_false] at c
        refine J_iinc (pq := 75) dX8_wrong_72 rfl c_iconst_1 rfl (Nat.le_of_ble_eq_true rfl) rfl (J_goto (tgt := 37) dX8_wrong_75 rfl (?_))
        rw [if_pos (show xRt q (xAdr h q s k) (gi h 3 (f + w * k)) h = true from c)] at hst
        refine J_eq ?_ rfl rfl (ih (k + 1) (by omega) (by omega))
        rw [hst]
        simp [nI_1]
      · rw [bi_0] at c
        refine J_iinc (pq := 72) dX8_wrong_69 rfl c_iconst_1 rfl (Nat.le_of_ble_eq_true rfl) rfl (J_iinc (pq := 75) dX8_wrong_72 rfl c_iconst_1 rfl (Nat.le_of_ble_eq_true rfl) rfl (J_goto (tgt := 37) dX8_wrong_75 rfl (?_)))
        rw [if_neg (show ¬ xRt q (xAdr h q s k) (gi h 3 (f + w * k)) h = true from by unfold xRt; rw [c]; decide)] at hst
        refine J_eq ?_ rfl rfl (ih (k + 1) (by omega) (by omega))
        rw [hst]
        simp [nI_1]
  · rw [b0_255 hf, b1_8 hw] at c; exact absurd c (by decide)
end D2
