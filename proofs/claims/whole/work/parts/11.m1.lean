-- the reference: its small methods
section M1
variable {x : JX} {h : JH}
theorem j_X9_isIn {v a b : Int32} : JF x yX9_isIn cX9_isIn 3 (some .boolean) 0 0 0 [.int v, .int a, .int b] h (some (.int (bi (isin v a b)))) h := by
  refine JM_of [some (.int v), some (.int a), some (.int b)] (by decide) (Nat.le_of_ble_eq_true rfl) rfl ?_
  refine J_iload_n (pq := 1) dX9_isIn_0 rfl rfl (J_iload_n (pq := 2) dX9_isIn_1 rfl rfl (J_icmp_lt (pq := 5) (tgt := 14) dX9_isIn_2 rfl rfl (fun c => ?_) (fun c => ?_)))
  · refine J_iconst (pq := 15) dX9_isIn_14 rfl c_iconst_0 (J_iret dX9_isIn_15 rfl (by first | rfl | exact bi_nar _) ?_)
    refine ⟨congrArg (fun z => some (Value.int z)) ?_, rfl⟩; simp_all [bi, ti_lt, ti_le]; try omega
  · refine J_iload_n (pq := 6) dX9_isIn_5 rfl rfl (J_iload_n (pq := 7) dX9_isIn_6 rfl rfl (J_icmp_gt (pq := 10) (tgt := 14) dX9_isIn_7 rfl rfl (fun c => ?_) (fun c => ?_)))
    · refine J_iconst (pq := 15) dX9_isIn_14 rfl c_iconst_0 (J_iret dX9_isIn_15 rfl (by first | rfl | exact bi_nar _) ?_)
      refine ⟨congrArg (fun z => some (Value.int z)) ?_, rfl⟩; simp_all [bi, ti_lt, ti_le]; try omega
    · refine J_iconst (pq := 11) dX9_isIn_10 rfl c_iconst_1 (J_goto (tgt := 15) dX9_isIn_11 rfl (J_iret dX9_isIn_15 rfl (by first | rfl | exact bi_nar _) ?_))
      refine ⟨congrArg (fun z => some (Value.int z)) ?_, rfl⟩; simp_all [bi, ti_lt, ti_le]; try omega
theorem j_X9_tape {i : Int32} (hK : Kin h) (hR : MR h) (ht : (gi h 38 2).toInt ≤ 400) (ht0 : 0 ≤ (gi h 38 2).toInt) : JF x yX9_tape cX9_tape 2 (some .int) 1 0 0 [.ref 38, .int i] h (some (.int (if isin i 0 (gi h 38 2 - 1) then gi h 40 (ix i) else -1))) h := by
  refine JM_of [some (.ref 38), some (.int i)] (by decide) (Nat.le_of_ble_eq_true rfl) rfl ?_
  have hs : (gi h 38 2 - 1).toInt = (gi h 38 2).toInt - 1 := ti_sub (by simp; omega) (by simp; omega)
  refine J_iload_n (pq := 1) dX9_tape_0 rfl rfl (J_iconst (pq := 2) dX9_tape_1 rfl c_iconst_0 (J_aload_n (pq := 3) dX9_tape_2 rfl rfl (J_getI (pq := 6) dX9_tape_3 rfl f_X9_130 jsI (hK.at rfl) (J_iconst (pq := 7) dX9_tape_6 rfl c_iconst_1 (J_isub (pq := 8) dX9_tape_7 rfl (J_statF (pq := 11) dX9_tape_8 rfl (j_X9_isIn) rfl tg_X9_isIn l_X9_137 st_X9_isIn (Nat.le_of_ble_eq_true rfl) (Nat.zero_le _) (Nat.zero_le _) (Nat.le_of_ble_eq_true rfl) (J_if_eq (pq := 14) (tgt := 23) dX9_tape_11 rfl rfl (fun c => ?_) (fun c => ?_))))))))
  · rw [bi_0] at c
    refine J_iconst (pq := 24) dX9_tape_23 rfl c_iconst_m1 (J_iret dX9_tape_24 rfl rfl ?_)
    exact ⟨by rw [bif_f c], rfl⟩
  · rw [bi_0, Bool.not_eq_false] at c
    have hb : vp_in i 400 := by rw [isin_t, hs] at c; exact vin (by simpa using c.1) (by omega)
    refine J_aload_n (pq := 15) dX9_tape_14 rfl rfl (J_getA (pq := 18) dX9_tape_15 rfl f_X9_13 (by decide +kernel) (hK.at rfl) (hR _ _ rfl) (J_iload_n (pq := 19) dX9_tape_18 rfl rfl (J_iald (pq := 20) dX9_tape_19 rfl (hK.at rfl) (by assumption) (J_goto (tgt := 24) dX9_tape_20 rfl (J_iret dX9_tape_24 rfl rfl ?_)))))
    exact ⟨by rw [bif_t c], rfl⟩
theorem j_X9_image {i : Int32} (hK : Kin h) (hR : MR h) : JF x yX9_image cX9_image 2 (some .int) 1 0 0 [.ref 38, .int i] h (some (.int (if isin i 0 255 then gi h 39 (ix i) else -1))) h := by
  refine JM_of [some (.ref 38), some (.int i)] (by decide) (Nat.le_of_ble_eq_true rfl) rfl ?_
  refine J_iload_n (pq := 1) dX9_image_0 rfl rfl (J_iconst (pq := 2) dX9_image_1 rfl c_iconst_0 (J_sipush (pq := 5) dX9_image_2 rfl c_sipush_255 (J_statF (pq := 8) dX9_image_5 rfl (j_X9_isIn) rfl tg_X9_isIn l_X9_137 st_X9_isIn (Nat.le_of_ble_eq_true rfl) (Nat.zero_le _) (Nat.zero_le _) (Nat.le_of_ble_eq_true rfl) (J_if_eq (pq := 11) (tgt := 20) dX9_image_8 rfl rfl (fun c => ?_) (fun c => ?_)))))
  · rw [bi_0] at c
    refine J_iconst (pq := 21) dX9_image_20 rfl c_iconst_m1 (J_iret dX9_image_21 rfl rfl ?_)
    exact ⟨by rw [bif_f c], rfl⟩
  · rw [bi_0, Bool.not_eq_false] at c
    have hb : vp_in i 256 := by rw [isin_t] at c; exact vin (by simpa using c.1) (by have := c.2; simp at this; omega)
    refine J_aload_n (pq := 12) dX9_image_11 rfl rfl (J_getA (pq := 15) dX9_image_12 rfl f_X9_7 (by decide +kernel) (hK.at rfl) (hR _ _ rfl) (J_iload_n (pq := 16) dX9_image_15 rfl rfl (J_iald (pq := 17) dX9_image_16 rfl (hK.at rfl) (by assumption) (J_goto (tgt := 21) dX9_image_17 rfl (J_iret dX9_image_21 rfl rfl ?_)))))
    exact ⟨by rw [bif_t c], rfl⟩
theorem j_X9_end {i : Int32} (hK : Kin h) (hR : MR h) : JF x yX9_end cX9_end 2 (some .int) 1 0 0 [.ref 38, .int i] h (some (.int (if isin i 0 (gi h 38 2) then i else -1))) (if isin i 0 (gi h 38 2) then si h 38 2 i else h) := by
  refine JM_of [some (.ref 38), some (.int i)] (by decide) (Nat.le_of_ble_eq_true rfl) rfl ?_
  refine J_iload_n (pq := 1) dX9_end_0 rfl rfl (J_iconst (pq := 2) dX9_end_1 rfl c_iconst_0 (J_aload_n (pq := 3) dX9_end_2 rfl rfl (J_getI (pq := 6) dX9_end_3 rfl f_X9_130 jsI (hK.at rfl) (J_statF (pq := 9) dX9_end_6 rfl (j_X9_isIn) rfl tg_X9_isIn l_X9_137 st_X9_isIn (Nat.le_of_ble_eq_true rfl) (Nat.zero_le _) (Nat.zero_le _) (Nat.le_of_ble_eq_true rfl) (J_if_ne (pq := 12) (tgt := 14) dX9_end_9 rfl rfl (fun c => ?_) (fun c => ?_))))))
  · rw [bi_0, Bool.not_eq_false] at c
    refine J_aload_n (pq := 15) dX9_end_14 rfl rfl (J_iload_n (pq := 16) dX9_end_15 rfl rfl (J_putI (pq := 19) dX9_end_16 rfl f_X9_130 (Or.inl rfl) (hK.at rfl) (J_iload_n (pq := 20) dX9_end_19 rfl rfl (J_iret dX9_end_20 rfl rfl ?_))))
    exact ⟨by rw [bif_t c], by rw [bif_t c]⟩
  · rw [bi_0] at c
    refine J_iconst (pq := 13) dX9_end_12 rfl c_iconst_m1 (J_iret dX9_end_13 rfl rfl ?_)
    exact ⟨by rw [bif_f c], by rw [bif_f c]⟩
theorem j_X9_fill {v : Int32} (hK : Kin h) (hR : MR h) : JF x yX9_fill cX9_fill 3 (some .boolean) 1 0 0 [.ref 38, .int v] h (some (.int (bi (isin v 0 255)))) (if isin v 0 255 then fillN h 39 256 v else h) := by
  refine JM_of [some (.ref 38), some (.int v), none] (by decide) (Nat.le_of_ble_eq_true rfl) rfl ?_
  refine J_iload_n (pq := 1) dX9_fill_0 rfl rfl (J_iconst (pq := 2) dX9_fill_1 rfl c_iconst_0 (J_sipush (pq := 5) dX9_fill_2 rfl c_sipush_255 (J_statF (pq := 8) dX9_fill_5 rfl (j_X9_isIn) rfl tg_X9_isIn l_X9_137 st_X9_isIn (Nat.le_of_ble_eq_true rfl) (Nat.zero_le _) (Nat.zero_le _) (Nat.le_of_ble_eq_true rfl) (J_if_ne (pq := 11) (tgt := 13) dX9_fill_8 rfl rfl (fun c => ?_) (fun c => ?_)))))
  · rw [bi_0, Bool.not_eq_false] at c
    have c8 := c
    refine J_iconst (pq := 14) dX9_fill_13 rfl c_iconst_0 (J_istore_m 2 (pq := 15) dX9_fill_14 rfl rfl (Nat.le_of_ble_eq_true rfl) (Nat.le_of_ble_eq_true rfl) rfl (?_))
    refine J_loop (σ := Nat) (fun k => [some (.ref 38), some (.int v), some (.int (nI k))]) (fun _ => []) (fun k => fillN h 39 k v) (fun k => k ≤ 256) (fun k => 256 - k) 0 rfl rfl (fillN_0 h 39 v).symm (by omega) (fun k hk ih => ?_)
    refine J_iload_n (pq := 16) dX9_fill_15 rfl rfl (J_sipush (pq := 19) dX9_fill_16 rfl c_sipush_256 (J_icmp_ge (pq := 22) (tgt := 35) dX9_fill_19 rfl rfl (fun c => ?_) (fun c => ?_)))
    · refine J_iconst (pq := 36) dX9_fill_35 rfl c_iconst_1 (J_iret dX9_fill_36 rfl (by first | rfl | exact bi_nar _) ?_)
      have : k = 256 := by
        have h256 : (256 : Int32) = nI 256 := rfl
        rw [h256, nI_leI (by omega) (by omega)] at c; omega
      subst this
      exact ⟨by rw [c8]; rfl, by rw [bif_t c8]⟩
    · have hlt : k < 256 := by
        have h256 : (256 : Int32) = nI 256 := rfl
        rw [h256, nI_leI (by omega) (by omega)] at c; omega
      have hb : vp_in (nI k) 256 := vp_in_nI hlt (by omega)
      refine J_aload_n (pq := 23) dX9_fill_22 rfl rfl (J_getA (pq := 26) dX9_fill_23 rfl f_X9_7 (by decide +kernel) (hK.at rfl) (hR _ _ rfl) (J_iload_n (pq := 27) dX9_fill_26 rfl rfl (J_iload_n (pq := 28) dX9_fill_27 rfl rfl (J_iast (pq := 29) dX9_fill_28 rfl (hK.at rfl) (by assumption) (J_iinc (pq := 32) dX9_fill_29 rfl c_iconst_1 rfl (Nat.le_of_ble_eq_true rfl) rfl (J_goto (tgt := 15) dX9_fill_32 rfl (?_)))))))
      refine J_eq ?_ rfl ?_ (ih (k + 1) (by omega) (by omega))
      · simp [nI_1]
      · rw [← fillN_s, show ix (nI k) = k from nI_clamp (by omega)]
  · rw [bi_0] at c
    refine J_iconst (pq := 12) dX9_fill_11 rfl c_iconst_0 (J_iret dX9_fill_12 rfl (by first | rfl | exact bi_nar _) ?_)
    exact ⟨by rw [c]; rfl, by rw [bif_f c]⟩
end M1
