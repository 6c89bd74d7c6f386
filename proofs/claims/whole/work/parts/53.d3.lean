-- the class: tape, image, walk, read
theorem ush_bt (v : Int32) (k : Nat) (hk : k = 24 ∨ k = 16 ∨ k = 8) : (v.toUInt32 >>> ((nI k).toUInt32 &&& Int32.toUInt32 31)).toInt32 &&& 255 = v >>> nI k &&& 255 := by
  refine i32_ext (fun b hb => ?_)
  unfold bt
  rw [Int32.toBitVec_and, Int32.toBitVec_and, BitVec.getLsbD_and, BitVec.getLsbD_and]
  by_cases h8 : b < 8
  · congr 1
    rcases hk with rfl | rfl | rfl
    · show (v.toBitVec >>> (24#32 : BitVec 32)).getLsbD b = (v.toBitVec.sshiftRight 24).getLsbD b
      rw [BitVec.getLsbD_sshiftRight, BitVec.ushiftRight_eq', BitVec.getLsbD_ushiftRight]
      simp
      rw [if_pos (by omega)]
      simp; omega
    · show (v.toBitVec >>> (16#32 : BitVec 32)).getLsbD b = (v.toBitVec.sshiftRight 16).getLsbD b
      rw [BitVec.getLsbD_sshiftRight, BitVec.ushiftRight_eq', BitVec.getLsbD_ushiftRight]
      simp
      rw [if_pos (by omega)]
      simp; omega
    · show (v.toBitVec >>> (8#32 : BitVec 32)).getLsbD b = (v.toBitVec.sshiftRight 8).getLsbD b
      rw [BitVec.getLsbD_sshiftRight, BitVec.ushiftRight_eq', BitVec.getLsbD_ushiftRight]
      simp
      rw [if_pos (by omega)]
      simp; omega
  · have : (255 : Int32).toBitVec.getLsbD b = false := by
      have : ∀ b : Fin 32, ¬ b.val < 8 → (255 : Int32).toBitVec.getLsbD b.val = false := by decide
      exact this ⟨b, hb⟩ h8
    rw [this, Bool.and_false, Bool.and_false]
theorem ush_24 (v : Int32) : (v.toUInt32 >>> (Int32.toUInt32 24 &&& Int32.toUInt32 31)).toInt32 &&& (255 : Int32) = (v >>> (24 : Int32)) &&& (255 : Int32) := ush_bt v 24 (by omega)
theorem ush_16 (v : Int32) : (v.toUInt32 >>> (Int32.toUInt32 16 &&& Int32.toUInt32 31)).toInt32 &&& (255 : Int32) = (v >>> (16 : Int32)) &&& (255 : Int32) := ush_bt v 16 (by omega)
theorem ush_8 (v : Int32) : (v.toUInt32 >>> (Int32.toUInt32 8 &&& Int32.toUInt32 31)).toInt32 &&& (255 : Int32) = (v >>> (8 : Int32)) &&& (255 : Int32) := ush_bt v 8 (by omega)
/-- a byte is put behind the class's tape -/
def xAd (h : JH) (b : Int32) : JH := si (si h 2 (ix (gi h 1 1)) b) 1 1 (gi h 1 1 + 1)
theorem xAdd_e (h : JH) (b : Int32) : xAdd h b = xAd h (b &&& 255) := rfl
theorem xAd_n {h : JH} {b : Int32} : gi (xAd h b) 1 1 = gi h 1 1 + 1 := by simp [xAd, gi_si]
def xFour (h : JH) (v : Int32) : JH := xAd (xAd (xAd (xAd h (v >>> 24 &&& 255)) (v >>> 16 &&& 255)) (v >>> 8 &&& 255)) (v >>> 0 &&& 255)
def xFeed (h : JH) (a b c d e : Int32) : JH := xFour (xFour (xFour (xFour (xFour h a) b) c) d) e
section D3
variable {x : JX} {h : JH} {q s d e nc : Nat}
theorem xFour_n {v : Int32} {n : Nat} (hn : gi h 1 1 = nI n) : gi (xFour h v) 1 1 = nI (n + 4) := by
  unfold xFour
  rw [xAd_n, xAd_n, xAd_n, xAd_n, hn, nI_1, nI_1, nI_1, nI_1]
theorem shr_0 (v : Int32) : v &&& 255 = (v >>> (0 : Int32)) &&& 255 := by
  rw [show v >>> (0 : Int32) = v from by
    apply Int32.toBitVec_inj.1
    show v.toBitVec.sshiftRight 0 = v.toBitVec
    simp]
theorem j_X6_addFour {v : Int32} {n : Nat} (hK : Kin h) (hX : XR h) (hn : gi h 1 1 = nI n) (hn4 : n + 4 ≤ 400) : JF x yX6_addFour cX6_addFour 2 none 1 0 0 [.ref 1, .int v] h none (xFour h v) := by
  refine JM_of [some (.ref 1), some (.int v)] (by decide) (Nat.le_of_ble_eq_true rfl) rfl ?_
  have e1 : ∀ b, gi (xAd h b) 1 1 = nI (n + 1) := fun b => by rw [xAd_n, hn, nI_1]
  have e2 : ∀ b b', gi (xAd (xAd h b) b') 1 1 = nI (n + 2) := fun b b' => by rw [xAd_n, e1, nI_1]
  have e3 : ∀ b b' b'', gi (xAd (xAd (xAd h b) b') b'') 1 1 = nI (n + 3) := fun b b' b'' => by rw [xAd_n, e2, nI_1]
  refine J_aload_n (pq := 1) dX6_addFour_0 rfl rfl (J_iload_n (pq := 2) dX6_addFour_1 rfl rfl (J_bipush (pq := 4) dX6_addFour_2 rfl c_bipush_24 (J_iushr (pq := 5) dX6_addFour_4 rfl (J_virtF (pq := 8) dX6_addFour_5 rfl (j_X6_add hK hX hn (by omega)) rfl tg_X6_add l_X6_19 vi_X6_add (by first | exact hc0 | exact hd0 | exact hK.at rfl) ⟨by decide, rfl⟩ (Nat.le_of_ble_eq_true rfl) (Nat.zero_le _) (Nat.zero_le _) (Nat.le_of_ble_eq_true rfl) (?_)))))
  rw [xAdd_e, ush_24]
  refine J_aload_n (pq := 9) dX6_addFour_8 rfl rfl (J_iload_n (pq := 10) dX6_addFour_9 rfl rfl (J_bipush (pq := 12) dX6_addFour_10 rfl c_bipush_16 (J_iushr (pq := 13) dX6_addFour_12 rfl (J_virtF (pq := 16) dX6_addFour_13 rfl (j_X6_add (h := xAd h (v >>> 24 &&& 255)) hK hX (e1 _) (by omega)) rfl tg_X6_add l_X6_19 vi_X6_add (by first | exact hc0 | exact hd0 | exact hK.at rfl) ⟨by decide, rfl⟩ (Nat.le_of_ble_eq_true rfl) (Nat.zero_le _) (Nat.zero_le _) (Nat.le_of_ble_eq_true rfl) (?_)))))
  rw [xAdd_e, ush_16]
  refine J_aload_n (pq := 17) dX6_addFour_16 rfl rfl (J_iload_n (pq := 18) dX6_addFour_17 rfl rfl (J_bipush (pq := 20) dX6_addFour_18 rfl c_bipush_8 (J_iushr (pq := 21) dX6_addFour_20 rfl (J_virtF (pq := 24) dX6_addFour_21 rfl (j_X6_add (h := xAd (xAd h (v >>> 24 &&& 255)) (v >>> 16 &&& 255)) hK hX (e2 _ _) (by omega)) rfl tg_X6_add l_X6_19 vi_X6_add (by first | exact hc0 | exact hd0 | exact hK.at rfl) ⟨by decide, rfl⟩ (Nat.le_of_ble_eq_true rfl) (Nat.zero_le _) (Nat.zero_le _) (Nat.le_of_ble_eq_true rfl) (?_)))))
  rw [xAdd_e, ush_8]
  refine J_aload_n (pq := 25) dX6_addFour_24 rfl rfl (J_iload_n (pq := 26) dX6_addFour_25 rfl rfl (J_virtF (pq := 29) dX6_addFour_26 rfl (j_X6_add (h := xAd (xAd (xAd h (v >>> 24 &&& 255)) (v >>> 16 &&& 255)) (v >>> 8 &&& 255)) hK hX (e3 _ _ _) (by omega)) rfl tg_X6_add l_X6_19 vi_X6_add (by first | exact hc0 | exact hd0 | exact hK.at rfl) ⟨by decide, rfl⟩ (Nat.le_of_ble_eq_true rfl) (Nat.zero_le _) (Nat.zero_le _) (Nat.le_of_ble_eq_true rfl) (J_vret dX6_addFour_29 rfl ?_)))
  rw [xAdd_e, shr_0 v]
  exact ⟨rfl, rfl⟩
theorem j_X8_feed {a b c1 d e : Int32} {n : Nat} (hK : Kin h) (hX : XR h) (hn : gi h 1 1 = nI n) (hn4 : n ≤ 400) : JF x yX8_feed cX8_feed 6 (some .int) 2 0 0 [.ref 0, .int a, .int b, .int c1, .int d, .int e] h (some (.int (if n ≤ 380 then nI (n + 20) else -1))) (if n ≤ 380 then xFeed h a b c1 d e else h) := by
  refine JM_of [some (.ref 0), some (.int a), some (.int b), some (.int c1), some (.int d), some (.int e)] (by decide) (Nat.le_of_ble_eq_true rfl) rfl ?_
  refine J_aload_n (pq := 1) dX8_feed_0 rfl rfl (J_getA (pq := 4) dX8_feed_1 rfl f_X8_10 (by decide +kernel) (by first | exact hc0 | exact hd0 | exact hK.at rfl) (hX _ _ _ rfl) (J_virtF (pq := 7) dX8_feed_4 rfl (j_X6_size hK) rfl tg_X6_size l_X8_75 vi_X6_size (by first | exact hc0 | exact hd0 | exact hK.at rfl) ⟨by decide, rfl⟩ (Nat.le_of_ble_eq_true rfl) (Nat.zero_le _) (Nat.zero_le _) (Nat.le_of_ble_eq_true rfl) (J_bipush (pq := 9) dX8_feed_7 rfl c_bipush_20 (J_iadd (pq := 10) dX8_feed_9 rfl (J_sipush (pq := 13) dX8_feed_10 rfl c_sipush_400 (J_icmp_le (pq := 16) (tgt := 18) dX8_feed_13 rfl rfl (fun c => ?_) (fun c => ?_)))))))
  · have c0 := c
    rw [hn, show (20 : Int32) = nI 20 from rfl, nI_add, show (400 : Int32) = nI 400 from rfl, nI_leI (by omega) (by omega)] at c0
    have n1 := xFour_n (v := a) hn
    have n2 := xFour_n (v := b) n1
    have n3 := xFour_n (v := c1) n2
    have n4 := xFour_n (v := d) n3
    have n5 := xFour_n (v := e) n4
    refine J_aload_n (pq := 19) dX8_feed_18 rfl rfl (J_getA (pq := 22) dX8_feed_19 rfl f_X8_10 (by decide +kernel) (by first | exact hc0 | exact hd0 | exact hK.at rfl) (hX _ _ _ rfl) (J_iload_n (pq := 23) dX8_feed_22 rfl rfl (J_virtF (pq := 26) dX8_feed_23 rfl (j_X6_addFour hK hX hn (by omega)) rfl tg_X6_addFour l_X8_79 vi_X6_addFour (by first | exact hc0 | exact hd0 | exact hK.at rfl) ⟨by decide, rfl⟩ (Nat.le_of_ble_eq_true rfl) (Nat.zero_le _) (Nat.zero_le _) (Nat.le_of_ble_eq_true rfl) (J_aload_n (pq := 27) dX8_feed_26 rfl rfl (J_getA (pq := 30) dX8_feed_27 rfl f_X8_10 (by decide +kernel) (by first | exact hc0 | exact hd0 | exact hK.at rfl) (hX _ _ _ rfl) (J_iload_n (pq := 31) dX8_feed_30 rfl rfl (J_virtF (pq := 34) dX8_feed_31 rfl (j_X6_addFour (h := xFour h a) hK hX n1 (by omega)) rfl tg_X6_addFour l_X8_79 vi_X6_addFour (by first | exact hc0 | exact hd0 | exact hK.at rfl) ⟨by decide, rfl⟩ (Nat.le_of_ble_eq_true rfl) (Nat.zero_le _) (Nat.zero_le _) (Nat.le_of_ble_eq_true rfl) (J_aload_n (pq := 35) dX8_feed_34 rfl rfl (J_getA (pq := 38) dX8_feed_35 rfl f_X8_10 (by decide +kernel) (by first | exact hc0 | exact hd0 | exact hK.at rfl) (hX _ _ _ rfl) (J_iload_n (pq := 39) dX8_feed_38 rfl rfl (J_virtF (pq := 42) dX8_feed_39 rfl (j_X6_addFour (h := xFour (xFour h a) b) hK hX n2 (by omega)) rfl tg_X6_addFour l_X8_79 vi_X6_addFour (by first | exact hc0 | exact hd0 | exact hK.at rfl) ⟨by decide, rfl⟩ (Nat.le_of_ble_eq_true rfl) (Nat.zero_le _) (Nat.zero_le _) (Nat.le_of_ble_eq_true rfl) (J_aload_n (pq := 43) dX8_feed_42 rfl rfl (J_getA (pq := 46) dX8_feed_43 rfl f_X8_10 (by decide +kernel) (by first | exact hc0 | exact hd0 | exact hK.at rfl) (hX _ _ _ rfl) (J_iload (pq := 48) dX8_feed_46 rfl rfl (J_virtF (pq := 51) dX8_feed_48 rfl (j_X6_addFour (h := xFour (xFour (xFour h a) b) c1) hK hX n3 (by omega)) rfl tg_X6_addFour l_X8_79 vi_X6_addFour (by first | exact hc0 | exact hd0 | exact hK.at rfl) ⟨by decide, rfl⟩ (Nat.le_of_ble_eq_true rfl) (Nat.zero_le _) (Nat.zero_le _) (Nat.le_of_ble_eq_true rfl) (J_aload_n (pq := 52) dX8_feed_51 rfl rfl (J_getA (pq := 55) dX8_feed_52 rfl f_X8_10 (by decide +kernel) (by first | exact hc0 | exact hd0 | exact hK.at rfl) (hX _ _ _ rfl) (J_iload (pq := 57) dX8_feed_55 rfl rfl (J_virtF (pq := 60) dX8_feed_57 rfl (j_X6_addFour (h := xFour (xFour (xFour (xFour h a) b) c1) d) hK hX n4 (by omega)) rfl tg_X6_addFour l_X8_79 vi_X6_addFour (by first | exact hc0 | exact hd0 | exact hK.at rfl) ⟨by decide, rfl⟩ (Nat.le_of_ble_eq_true rfl) (Nat.zero_le _) (Nat.zero_le _) (Nat.le_of_ble_eq_true rfl) (J_aload_n (pq := 61) dX8_feed_60 rfl rfl (J_getA (pq := 64) dX8_feed_61 rfl f_X8_10 (by decide +kernel) (by first | exact hc0 | exact hd0 | exact hK.at rfl) (hX _ _ _ rfl) (J_virtF (pq := 67) dX8_feed_64 rfl (j_X6_size (h := xFour (xFour (xFour (xFour (xFour h a) b) c1) d) e) hK) rfl tg_X6_size l_X8_75 vi_X6_size (by first | exact hc0 | exact hd0 | exact hK.at rfl) ⟨by decide, rfl⟩ (Nat.le_of_ble_eq_true rfl) (Nat.zero_le _) (Nat.zero_le _) (Nat.le_of_ble_eq_true rfl) (J_iret dX8_feed_67 rfl rfl ?_)))))))))))))))))))))))
    rw [if_pos (by omega), if_pos (by omega)]
    exact ⟨by rw [n5], rfl⟩
  · have c0 := c
    rw [hn, show (20 : Int32) = nI 20 from rfl, nI_add, show (400 : Int32) = nI 400 from rfl, nI_leI (by omega) (by omega)] at c0
    refine J_iconst (pq := 17) dX8_feed_16 rfl c_iconst_m1 (J_iret dX8_feed_17 rfl rfl ?_)
    rw [if_neg (by omega), if_neg (by omega)]
    exact ⟨rfl, rfl⟩
theorem j_X8_end {i : Int32} (hK : Kin h) (hX : XR h) : JF x yX8_end cX8_end 2 (some .int) 1 0 0 [.ref 0, .int i] h (some (.int (if isin i 0 (gi h 1 1) then i else -1))) (if isin i 0 (gi h 1 1) then si h 1 1 i else h) := by
  refine JM_of [some (.ref 0), some (.int i)] (by decide) (Nat.le_of_ble_eq_true rfl) rfl ?_
  refine J_aload_n (pq := 1) dX8_end_0 rfl rfl (J_getA (pq := 4) dX8_end_1 rfl f_X8_10 (by decide +kernel) (by first | exact hc0 | exact hd0 | exact hK.at rfl) (hX _ _ _ rfl) (J_iload_n (pq := 5) dX8_end_4 rfl rfl (J_virtF (pq := 8) dX8_end_5 rfl (j_X6_cutTo hK) rfl tg_X6_cutTo l_X8_83 vi_X6_cutTo (by first | exact hc0 | exact hd0 | exact hK.at rfl) ⟨by decide, rfl⟩ (Nat.le_of_ble_eq_true rfl) (Nat.zero_le _) (Nat.zero_le _) (Nat.le_of_ble_eq_true rfl) (J_if_eq (pq := 11) (tgt := 15) dX8_end_8 rfl rfl (fun c => ?_) (fun c => ?_)))))
  · rw [bi_0] at c
    refine J_iconst (pq := 16) dX8_end_15 rfl c_iconst_m1 (J_iret dX8_end_16 rfl rfl ?_)
    rw [c]; exact ⟨rfl, rfl⟩
  · rw [bi_0, Bool.not_eq_false] at c
    refine J_iload_n (pq := 12) dX8_end_11 rfl rfl (J_goto (tgt := 16) dX8_end_12 rfl (J_iret dX8_end_16 rfl rfl ?_))
    rw [c]; exact ⟨rfl, rfl⟩
theorem j_X8_fault {v : Int32} (hK : Kin h) (hX : XR h) : JF x yX8_fault cX8_fault 2 (some .int) 0 0 0 [.ref 0, .int v] h (some (.int (if v = 0 then gi h 4 0 else if v = 1 then gi h 4 1 else -1))) h := by
  refine JM_of [some (.ref 0), some (.int v)] (by decide) (Nat.le_of_ble_eq_true rfl) rfl ?_
  refine J_iload_n (pq := 1) dX8_fault_0 rfl rfl (J_if_ne (pq := 4) (tgt := 12) dX8_fault_1 rfl rfl (fun c => ?_) (fun c => ?_))
  · rw [if_neg c]
    refine J_iload_n (pq := 13) dX8_fault_12 rfl rfl (J_iconst (pq := 14) dX8_fault_13 rfl c_iconst_1 (J_icmp_ne (pq := 17) (tgt := 27) dX8_fault_14 rfl rfl (fun c => ?_) (fun c => ?_)))
    · rw [if_neg c]
      refine J_iconst (pq := 28) dX8_fault_27 rfl c_iconst_m1 (J_iret dX8_fault_28 rfl rfl ?_)
      exact ⟨rfl, rfl⟩
    · rw [if_pos c]
      refine J_aload_n (pq := 18) dX8_fault_17 rfl rfl (J_getA (pq := 21) dX8_fault_18 rfl f_X8_23 (by decide +kernel) (by first | exact hc0 | exact hd0 | exact hK.at rfl) (hX _ _ _ rfl) (J_getI (pq := 24) dX8_fault_21 rfl f_X8_110 jsI (by first | exact hc0 | exact hd0 | exact hK.at rfl) (J_goto (tgt := 28) dX8_fault_24 rfl (J_iret dX8_fault_28 rfl rfl ?_))))
      exact ⟨rfl, rfl⟩
  · rw [if_pos c]
    refine J_aload_n (pq := 5) dX8_fault_4 rfl rfl (J_getA (pq := 8) dX8_fault_5 rfl f_X8_23 (by decide +kernel) (by first | exact hc0 | exact hd0 | exact hK.at rfl) (hX _ _ _ rfl) (J_getI (pq := 11) dX8_fault_8 rfl f_X8_107 jsI (by first | exact hc0 | exact hd0 | exact hK.at rfl) (J_iret dX8_fault_11 rfl rfl ?_)))
    exact ⟨rfl, rfl⟩
theorem j_X8_tape {i : Int32} {n : Nat} (hK : Kin h) (hX : XR h) (hn : gi h 1 1 = nI n) (hn4 : n ≤ 400) : JF x yX8_tape cX8_tape 2 (some .int) 1 0 0 [.ref 0, .int i] h (some (.int (if isin i 0 (nI n - 1) then gi h 2 (ix i) else -1))) h := by
  refine JM_of [some (.ref 0), some (.int i)] (by decide) (Nat.le_of_ble_eq_true rfl) rfl ?_
  refine J_aload_n (pq := 1) dX8_tape_0 rfl rfl (J_getA (pq := 4) dX8_tape_1 rfl f_X8_10 (by decide +kernel) (by first | exact hc0 | exact hd0 | exact hK.at rfl) (hX _ _ _ rfl) (J_iload_n (pq := 5) dX8_tape_4 rfl rfl (J_virtF (pq := 8) dX8_tape_5 rfl (j_X6_at hK hX hn hn4) rfl tg_X6_at l_X8_121 vi_X6_at (by first | exact hc0 | exact hd0 | exact hK.at rfl) ⟨by decide, rfl⟩ (Nat.le_of_ble_eq_true rfl) (Nat.zero_le _) (Nat.zero_le _) (Nat.le_of_ble_eq_true rfl) (J_iret dX8_tape_8 rfl rfl ?_))))
  exact ⟨rfl, rfl⟩
theorem j_X8_fill {v : Int32} (hK : Kin h) (hX : XR h) : JF x yX8_fill cX8_fill 2 (some .boolean) 1 0 0 [.ref 0, .int v] h (some (.int (bi (isin v 0 255)))) (if isin v 0 255 then fillN h 3 256 v else h) := by
  refine JM_of [some (.ref 0), some (.int v)] (by decide) (Nat.le_of_ble_eq_true rfl) rfl ?_
  refine J_iload_n (pq := 1) dX8_fill_0 rfl rfl (J_iconst (pq := 2) dX8_fill_1 rfl c_iconst_0 (J_sipush (pq := 5) dX8_fill_2 rfl c_sipush_255 (J_statF (pq := 8) dX8_fill_5 rfl (j_X8_isWithin) rfl tg_X8_isWithin l_X8_87 st_X8_isWithin (Nat.le_of_ble_eq_true rfl) (Nat.zero_le _) (Nat.zero_le _) (Nat.le_of_ble_eq_true rfl) (J_if_ne (pq := 11) (tgt := 13) dX8_fill_8 rfl rfl (fun c => ?_) (fun c => ?_)))))
  · rw [bi_0, Bool.not_eq_false] at c
    refine J_aload_n (pq := 14) dX8_fill_13 rfl rfl (J_getA (pq := 17) dX8_fill_14 rfl f_X8_16 (by decide +kernel) (by first | exact hc0 | exact hd0 | exact hK.at rfl) (hX _ _ _ rfl) (J_iload_n (pq := 18) dX8_fill_17 rfl rfl (J_statF (pq := 21) dX8_fill_18 rfl (j_fill (n := 256) (hK.at rfl) (by omega)) rfl tg_J7_fill_53178 l_X8_69 st_J7_fill_53178 (Nat.le_of_ble_eq_true rfl) (Nat.zero_le _) (Nat.zero_le _) (Nat.le_of_ble_eq_true rfl) (J_iconst (pq := 22) dX8_fill_21 rfl c_iconst_1 (J_iret dX8_fill_22 rfl (by first | rfl | exact bi_nar _) ?_)))))
    rw [c]; exact ⟨rfl, rfl⟩
  · rw [bi_0] at c
    refine J_iconst (pq := 12) dX8_fill_11 rfl c_iconst_0 (J_iret dX8_fill_12 rfl (by first | rfl | exact bi_nar _) ?_)
    rw [c]; exact ⟨rfl, rfl⟩
theorem j_X8_about {v : Int32} (hK : Kin h) (hX : XR h) : JF x yX8_about cX8_about 2 (some .int) 1 0 0 [.ref 0, .int v] h (some (.int (if v = 0 then gi h 0 7 else if v = 1 then gi h 1 1 else if v = 2 then gi h 0 10 else -1))) h := by
  refine JM_of [some (.ref 0), some (.int v)] (by decide) (Nat.le_of_ble_eq_true rfl) rfl ?_
  refine J_iload_n (pq := 1) dX8_about_0 rfl rfl (?_)
  by_cases hw : isin v 0 2 = true
  · obtain ⟨k, hk, rfl⟩ := (isK (n := 2) (by omega)).mp hw
    rcases (show k = 0 ∨ k = 1 ∨ k = 2 by omega) with rfl | rfl | rfl
    · refine J_tabIn (tgt := 28) dX8_about_1 (by decide) (by decide) rfl rfl ?_
      refine J_aload_n (pq := 29) dX8_about_28 rfl rfl (J_getI (pq := 32) dX8_about_29 rfl f_X8_128 jsI (by first | exact hc0 | exact hd0 | exact hK.at rfl) (J_iret dX8_about_32 rfl rfl ?_))
      exact ⟨rfl, rfl⟩
    · refine J_tabIn (tgt := 33) dX8_about_1 (by decide) (by decide) rfl rfl ?_
      refine J_aload_n (pq := 34) dX8_about_33 rfl rfl (J_getA (pq := 37) dX8_about_34 rfl f_X8_10 (by decide +kernel) (by first | exact hc0 | exact hd0 | exact hK.at rfl) (hX _ _ _ rfl) (J_virtF (pq := 40) dX8_about_37 rfl (j_X6_size hK) rfl tg_X6_size l_X8_75 vi_X6_size (by first | exact hc0 | exact hd0 | exact hK.at rfl) ⟨by decide, rfl⟩ (Nat.le_of_ble_eq_true rfl) (Nat.zero_le _) (Nat.zero_le _) (Nat.le_of_ble_eq_true rfl) (J_iret dX8_about_40 rfl rfl ?_)))
      exact ⟨rfl, rfl⟩
    · refine J_tabIn (tgt := 41) dX8_about_1 (by decide) (by decide) rfl rfl ?_
      refine J_aload_n (pq := 42) dX8_about_41 rfl rfl (J_getI (pq := 45) dX8_about_42 rfl f_X8_97 jsI (by first | exact hc0 | exact hd0 | exact hK.at rfl) (J_iret dX8_about_45 rfl rfl ?_))
      exact ⟨rfl, rfl⟩
  · rw [isin_t] at hw
    have z0 : (0 : Int32).toInt = 0 := rfl
    have z4 : (2 : Int32).toInt = 2 := rfl
    rw [z0, z4] at hw
    refine J_tabOut (tgt := 46) dX8_about_1 (by omega) rfl ?_
    refine J_iconst (pq := 47) dX8_about_46 rfl c_iconst_m1 (J_iret dX8_about_47 rfl rfl ?_)
    refine ⟨?_, rfl⟩
    rw [if_neg (fun q => hw (by rw [q]; decide)), if_neg (fun q => hw (by rw [q]; decide)), if_neg (fun q => hw (by rw [q]; decide))]
def xWalk (h : JH) (d : Nat) (w : Int32) : Int32 := if w = 0 then gi h d 4 else if w = 1 then gi h d 5 else if w = 2 then gi h d 6 else if w = 3 then gi h d 7 else -1
theorem j_X8_walk_no {v w : Int32} (hK : Kin h) (hX : XR h) (hv : isin v 0 3 = false) : JF x yX8_walk cX8_walk 4 (some .int) 2 0 0 [.ref 0, .int v, .int w] h (some (.int (-1))) h := by
  refine JM_of [some (.ref 0), some (.int v), some (.int w), none] (by decide) (Nat.le_of_ble_eq_true rfl) rfl ?_
  refine J_aload_n (pq := 1) dX8_walk_0 rfl rfl (J_iload_n (pq := 2) dX8_walk_1 rfl rfl (J_virtF (pq := 5) dX8_walk_2 rfl (j_recipeAt_no hK hX hv) rfl tg_X8_recipeAt l_X8_179 vi_X8_recipeAt (by first | exact hc0 | exact hd0 | exact hK.at rfl) ⟨by decide, rfl⟩ (Nat.le_of_ble_eq_true rfl) (Nat.zero_le _) (Nat.zero_le _) (Nat.le_of_ble_eq_true rfl) (J_astore_mN 3 (pq := 6) dX8_walk_5 rfl rfl (Nat.le_of_ble_eq_true rfl) (Nat.le_of_ble_eq_true rfl) rfl (J_aload_nN (pq := 7) dX8_walk_6 rfl rfl (J_ifnonnullN (pq := 10) dX8_walk_7 rfl (J_iconst (pq := 11) dX8_walk_10 rfl c_iconst_m1 (J_iret dX8_walk_11 rfl rfl ?_)))))))
  exact ⟨rfl, rfl⟩
theorem j_X8_walk {r : Nat} {w : Int32} (hK : Kin h) (hX : XR h) (hr : r < 4) (hg : gr h 12 r = some d) (hd0 : (kd h)[d]? = some (4, 8)) : JF x yX8_walk cX8_walk 4 (some .int) 2 0 0 [.ref 0, .int (nI r), .int w] h (some (.int (xWalk h d w))) h := by
  refine JM_of [some (.ref 0), some (.int (nI r)), some (.int w), none] (by decide) (Nat.le_of_ble_eq_true rfl) rfl ?_
  refine J_aload_n (pq := 1) dX8_walk_0 rfl rfl (J_iload_n (pq := 2) dX8_walk_1 rfl rfl (J_virtF (pq := 5) dX8_walk_2 rfl (j_recipeAt hK hX hr hg) rfl tg_X8_recipeAt l_X8_179 vi_X8_recipeAt (by first | exact hc0 | exact hd0 | exact hK.at rfl) ⟨by decide, rfl⟩ (Nat.le_of_ble_eq_true rfl) (Nat.zero_le _) (Nat.zero_le _) (Nat.le_of_ble_eq_true rfl) (J_astore_m 3 (pq := 6) dX8_walk_5 rfl rfl (Nat.le_of_ble_eq_true rfl) (Nat.le_of_ble_eq_true rfl) rfl (J_aload_n (pq := 7) dX8_walk_6 rfl rfl (J_ifnonnull (tgt := 12) dX8_walk_7 rfl (J_iload_n (pq := 13) dX8_walk_12 rfl rfl (?_)))))))
  by_cases hw : isin w 0 3 = true
  · obtain ⟨k, hk, rfl⟩ := (isK (n := 3) (by omega)).mp hw
    rcases (show k = 0 ∨ k = 1 ∨ k = 2 ∨ k = 3 by omega) with rfl | rfl | rfl | rfl
    · refine J_tabIn (tgt := 44) dX8_walk_13 (by decide) (by decide) rfl rfl ?_
      refine J_aload_n (pq := 45) dX8_walk_44 rfl rfl (J_getI (pq := 48) dX8_walk_45 rfl f_X8_176 jsI (by first | exact hc0 | exact hd0 | exact hK.at rfl) (J_iret dX8_walk_48 rfl rfl ?_))
      exact ⟨rfl, rfl⟩
    · refine J_tabIn (tgt := 49) dX8_walk_13 (by decide) (by decide) rfl rfl ?_
      refine J_aload_n (pq := 50) dX8_walk_49 rfl rfl (J_getI (pq := 53) dX8_walk_50 rfl f_X8_183 jsI (by first | exact hc0 | exact hd0 | exact hK.at rfl) (J_iret dX8_walk_53 rfl rfl ?_))
      exact ⟨rfl, rfl⟩
    · refine J_tabIn (tgt := 54) dX8_walk_13 (by decide) (by decide) rfl rfl ?_
      refine J_aload_n (pq := 55) dX8_walk_54 rfl rfl (J_getI (pq := 58) dX8_walk_55 rfl f_X8_186 jsI (by first | exact hc0 | exact hd0 | exact hK.at rfl) (J_iret dX8_walk_58 rfl rfl ?_))
      exact ⟨rfl, rfl⟩
    · refine J_tabIn (tgt := 59) dX8_walk_13 (by decide) (by decide) rfl rfl ?_
      refine J_aload_n (pq := 60) dX8_walk_59 rfl rfl (J_getI (pq := 63) dX8_walk_60 rfl f_X8_189 jsI (by first | exact hc0 | exact hd0 | exact hK.at rfl) (J_iret dX8_walk_63 rfl rfl ?_))
      exact ⟨rfl, rfl⟩
  · rw [isin_t] at hw
    have z0 : (0 : Int32).toInt = 0 := rfl
    have z3 : (3 : Int32).toInt = 3 := rfl
    rw [z0, z3] at hw
    refine J_tabOut (tgt := 64) dX8_walk_13 (by omega) rfl ?_
    refine J_iconst (pq := 65) dX8_walk_64 rfl c_iconst_m1 (J_iret dX8_walk_65 rfl rfl ?_)
    refine ⟨?_, rfl⟩
    unfold xWalk
    rw [if_neg (fun q => hw (by rw [q]; decide)), if_neg (fun q => hw (by rw [q]; decide)), if_neg (fun q => hw (by rw [q]; decide)), if_neg (fun q => hw (by rw [q]; decide))]
def xRd (h : JH) (src q s f w : Nat) : Nat → JH
  | 0 => h
  | k + 1 => si (xRd h src q s f w k) 3 (f + w * k) (gi h src (xAdr h q s k))
theorem xRd_2 (src t f w : Nat) : ∀ k, (xRd h src q t f w k).2 = h.2
  | 0 => rfl
  | k + 1 => xRd_2 src t f w k
theorem xRd_gi (src t f w : Nat) {a : Nat} (ha : a ≠ 3) (b : Nat) : ∀ k, gi (xRd h src q t f w k) a b = gi h a b
  | 0 => rfl
  | k + 1 => by rw [xRd, gi_si, if_neg (fun q => ha q.1)]; exact xRd_gi src t f w ha b k
theorem j_X8_read_no {v hi f w : Int32} {cq : Nat → Nat} (hK : Kin h) (hX : XR h) (hn : gi h 0 7 = nI nc) (hn4 : nc ≤ 4) (hg : ∀ i, i < nc → gr h 11 i = some (cq i)) (ho : (isin v 0 (nI nc - 1) && (isin f 0 255 && isin w 1 8)) = false) : JF x yX8_read cX8_read 9 (some .int) 3 0 0 [.ref 0, .int v, .int hi, .int f, .int w] h (some (.int (-1))) h := by
  refine JM_of [some (.ref 0), some (.int v), some (.int hi), some (.int f), some (.int w), none, none, none, none] (by decide) (Nat.le_of_ble_eq_true rfl) rfl ?_
  by_cases hv : isin v 0 (nI nc - 1) = true
  · rw [hv, Bool.true_and] at ho
    obtain ⟨i, hi, rfl⟩ := (isinN (by omega)).mp hv
    refine J_aload_n (pq := 1) dX8_read_0 rfl rfl (J_iload_n (pq := 2) dX8_read_1 rfl rfl (J_virtF (pq := 5) dX8_read_2 rfl (j_chipAt hK hX hn hn4 hi (hg i hi)) rfl tg_X8_chipAt l_X8_142 vi_X8_chipAt (by first | exact hc0 | exact hd0 | exact hK.at rfl) ⟨by decide, rfl⟩ (Nat.le_of_ble_eq_true rfl) (Nat.zero_le _) (Nat.zero_le _) (Nat.le_of_ble_eq_true rfl) (J_astore (pq := 7) dX8_read_5 rfl (Nat.le_of_ble_eq_true rfl) (Nat.le_of_ble_eq_true rfl) rfl (J_aload (pq := 9) dX8_read_7 rfl rfl (J_ifnull (pq := 12) dX8_read_9 rfl (J_iload_n (pq := 13) dX8_read_12 rfl rfl (J_iload (pq := 15) dX8_read_13 rfl rfl (J_statF (pq := 18) dX8_read_15 rfl (j_X8_isPart) rfl tg_X8_isPart l_X8_192 st_X8_isPart (Nat.le_of_ble_eq_true rfl) (Nat.zero_le _) (Nat.zero_le _) (Nat.le_of_ble_eq_true rfl) (J_if_ne (pq := 21) (tgt := 23) dX8_read_18 rfl rfl (fun c => ?_) (fun c => ?_))))))))))
    · rw [ho] at c; exact absurd rfl c
    · refine J_iconst (pq := 22) dX8_read_21 rfl c_iconst_m1 (J_iret dX8_read_22 rfl rfl ?_)
      exact ⟨rfl, rfl⟩
  · rw [Bool.not_eq_true] at hv
    refine J_aload_n (pq := 1) dX8_read_0 rfl rfl (J_iload_n (pq := 2) dX8_read_1 rfl rfl (J_virtF (pq := 5) dX8_read_2 rfl (j_chipAt_no hK hX hn hn4 hv) rfl tg_X8_chipAt l_X8_142 vi_X8_chipAt (by first | exact hc0 | exact hd0 | exact hK.at rfl) ⟨by decide, rfl⟩ (Nat.le_of_ble_eq_true rfl) (Nat.zero_le _) (Nat.zero_le _) (Nat.le_of_ble_eq_true rfl) (J_astoreN (pq := 7) dX8_read_5 rfl (Nat.le_of_ble_eq_true rfl) (Nat.le_of_ble_eq_true rfl) rfl (J_aloadN (pq := 9) dX8_read_7 rfl rfl (J_ifnullN (tgt := 21) dX8_read_9 rfl (J_iconst (pq := 22) dX8_read_21 rfl c_iconst_m1 (J_iret dX8_read_22 rfl rfl ?_)))))))
    exact ⟨rfl, rfl⟩
theorem j_X8_read {i f w : Nat} {hi0 : Int32} (hK : Kin h) (hX : XR h) (hn : gi h 0 7 = nI nc) (hn4 : nc ≤ 4) (hi : i < nc) (hg : gr h 11 i = some q) (hC : CK h q s) (hq : 76 ≤ q) (hf : f ≤ 255) (hw : 1 ≤ w ∧ w ≤ 8) : JF x yX8_read cX8_read 9 (some .int) 3 0 0 [.ref 0, .int (nI i), .int hi0, .int (nI f), .int (nI w)] h (some (.int (nI (xRch h q s f w)))) (xRd h (if hi0 = 0 then q + 3 else q + 4) q s f w (xRch h q s f w)) := by
  have hc0 := hC.1.1
  have hs2 := hC.2.2.2.2
  have hgl := goodc_le (xBad h q) s
  have hnn : xRch h q s f w ≤ (255 - f) / w + 1 := Nat.min_le_right _ _
  have hn2 : xRch h q s f w ≤ 8 * goodc (xBad h q) s := Nat.min_le_left _ _
  refine JM_of [some (.ref 0), some (.int (nI i)), some (.int hi0), some (.int (nI f)), some (.int (nI w)), none, none, none, none] (by decide) (Nat.le_of_ble_eq_true rfl) rfl ?_
  generalize hsrc : (if hi0 = 0 then q + 3 else q + 4) = src
  refine J_aload_n (pq := 1) dX8_read_0 rfl rfl (J_iload_n (pq := 2) dX8_read_1 rfl rfl (J_virtF (pq := 5) dX8_read_2 rfl (j_chipAt hK hX hn hn4 hi hg) rfl tg_X8_chipAt l_X8_142 vi_X8_chipAt (by first | exact hc0 | exact hd0 | exact hK.at rfl) ⟨by decide, rfl⟩ (Nat.le_of_ble_eq_true rfl) (Nat.zero_le _) (Nat.zero_le _) (Nat.le_of_ble_eq_true rfl) (J_astore (pq := 7) dX8_read_5 rfl (Nat.le_of_ble_eq_true rfl) (Nat.le_of_ble_eq_true rfl) rfl (J_aload (pq := 9) dX8_read_7 rfl rfl (J_ifnull (pq := 12) dX8_read_9 rfl (J_iload_n (pq := 13) dX8_read_12 rfl rfl (J_iload (pq := 15) dX8_read_13 rfl rfl (J_statF (pq := 18) dX8_read_15 rfl (j_X8_isPart) rfl tg_X8_isPart l_X8_192 st_X8_isPart (Nat.le_of_ble_eq_true rfl) (Nat.zero_le _) (Nat.zero_le _) (Nat.le_of_ble_eq_true rfl) (J_if_ne (pq := 21) (tgt := 23) dX8_read_18 rfl rfl (fun c => ?_) (fun c => ?_))))))))))
  · refine J_aload (pq := 25) dX8_read_23 rfl rfl (J_iload_n (pq := 26) dX8_read_25 rfl rfl (J_iload (pq := 28) dX8_read_26 rfl rfl (J_statF (pq := 31) dX8_read_28 rfl (j_reach hC hf hw) rfl tg_X8_reachOf l_X8_205 st_X8_reachOf (Nat.le_of_ble_eq_true rfl) (Nat.zero_le _) (Nat.zero_le _) (Nat.le_of_ble_eq_true rfl) (J_istore (pq := 33) dX8_read_31 rfl (Nat.le_of_ble_eq_true rfl) (Nat.le_of_ble_eq_true rfl) rfl (J_iconst (pq := 34) dX8_read_33 rfl c_iconst_0 (J_istore (pq := 36) dX8_read_34 rfl (Nat.le_of_ble_eq_true rfl) (Nat.le_of_ble_eq_true rfl) rfl (?_)))))))
    refine J_loop (σ := Nat) (fun k => [some (.ref 0), some (.int (nI i)), some (.int hi0), some (.int (nI f)), some (.int (nI w)), some (.ref q), some (.int (nI (xRch h q s f w))), some (.int (nI k)), none]) (fun _ => []) (fun k => xRd h src q s f w k) (fun k => k ≤ xRch h q s f w) (fun k => xRch h q s f w - k) 0 rfl rfl rfl (Nat.zero_le _) (fun k k1 ih => ?_)
    have e2 := xRd_2 (h := h) (q := q) src s f w k
    have eg : ∀ a b, a ≠ 3 → gi (xRd h src q s f w k) a b = gi h a b := fun a b ha => xRd_gi src s f w ha b k
    have hst : xRd h src q s f w (k + 1) = si (xRd h src q s f w k) 3 (f + w * k) (gi h src (xAdr h q s k)) := rfl
    generalize hG : xRd h src q s f w k = G at *
    have hK' : Kin G := hK.of2 e2
    have hX' : XR G := hX.of3 (by rw [e2])
    have hC' : CK G q s := hC.of3 (by rw [e2]) (eg q 0 (by omega))
    have eB : xBad G q = xBad h q := by funext b; unfold xBad; rw [eg _ _ (by omega)]
    have eA : xAdr G q s k = xAdr h q s k := by unfold xAdr; rw [eB]
    have hc0 := hC'.1.1
    refine J_iload (pq := 38) dX8_read_36 rfl rfl (J_iload (pq := 40) dX8_read_38 rfl rfl (J_icmp_ge (pq := 43) (tgt := 98) dX8_read_40 rfl rfl (fun c => ?_) (fun c => ?_)))
    · rw [nI_leI (by omega) (by omega)] at c
      refine J_iload (pq := 100) dX8_read_98 rfl rfl (J_iret dX8_read_100 rfl rfl ?_)
      refine ⟨rfl, ?_⟩
      rw [← hG, show k = xRch h q s f w by omega]
    · rw [nI_leI (by omega) (by omega)] at c
      have hk : k < xRch h q s f w := Nat.lt_of_not_le c
      have hfw := fw_le hf hnn hk
      have hal := xAdr_lt (h := h) (q := q) (s := s) (Nat.lt_of_lt_of_le hk hn2)
      have hb : vp_in (nI (f + w * k)) 256 := vp_in_nI (by omega) (by omega)
      refine J_iload_n (pq := 44) dX8_read_43 rfl rfl (J_iload (pq := 46) dX8_read_44 rfl rfl (J_iload (pq := 48) dX8_read_46 rfl rfl (J_imul (pq := 49) dX8_read_48 rfl (J_iadd (pq := 50) dX8_read_49 rfl (?_)))))
      rw [im_n]
      refine J_istore (pq := 52) dX8_read_50 rfl (Nat.le_of_ble_eq_true rfl) (Nat.le_of_ble_eq_true rfl) rfl (J_iload (pq := 54) dX8_read_52 rfl rfl (J_iconst (pq := 55) dX8_read_54 rfl c_iconst_0 (J_sipush (pq := 58) dX8_read_55 rfl c_sipush_255 (J_statF (pq := 61) dX8_read_58 rfl (j_X8_isWithin) rfl tg_X8_isWithin l_X8_87 st_X8_isWithin (Nat.le_of_ble_eq_true rfl) (Nat.zero_le _) (Nat.zero_le _) (Nat.le_of_ble_eq_true rfl) (J_if_eq (pq := 64) (tgt := 92) dX8_read_61 rfl rfl (fun c => ?_) (fun c => ?_))))))
      · rw [b0_255 hfw] at c; exact absurd c (by decide)
      · have fin : J x yX8_read cX8_read 9 (some .int) 3 0 0 (fun v g => v = some (.int (nI (xRch h q s f w))) ∧ g = xRd h src q s f w (xRch h q s f w)) 91 [some (.ref 0), some (.int (nI i)), some (.int hi0), some (.int (nI f)), some (.int (nI w)), some (.ref q), some (.int (nI (xRch h q s f w))), some (.int (nI k)), some (.int (nI (f + w * k)))] [.int (gi h src (xAdr h q s k)), .int (nI (f + w * k)), .ref 3] G := by
          refine J_iast (pq := 92) dX8_read_91 rfl (hK'.at rfl) (by assumption) (J_iinc (pq := 95) dX8_read_92 rfl c_iconst_1 rfl (Nat.le_of_ble_eq_true rfl) rfl (J_goto (tgt := 36) dX8_read_95 rfl (?_)))
          rw [ixn (by omega), nI_1, ← hst]
          exact J_weak (by simp [lsub]) rfl rfl (ih (k + 1) (by omega) (by omega))
        refine J_aload_n (pq := 65) dX8_read_64 rfl rfl (J_getA (pq := 68) dX8_read_65 rfl f_X8_16 (by decide +kernel) (by first | exact hc0 | exact hK'.at rfl) (hX' _ _ _ rfl) (J_iload (pq := 70) dX8_read_68 rfl rfl (J_aload (pq := 72) dX8_read_70 rfl rfl (J_iload_n (pq := 73) dX8_read_72 rfl rfl (J_if_eq (pq := 76) (tgt := 80) dX8_read_73 rfl rfl (fun c => ?_) (fun c => ?_))))))
        · refine J_iconst (pq := 81) dX8_read_80 rfl c_iconst_1 (J_aload (pq := 83) dX8_read_81 rfl rfl (J_iload (pq := 85) dX8_read_83 rfl rfl (J_virtF (pq := 88) dX8_read_85 rfl (j_X0_addressOf hC' (by omega)) rfl tg_X0_addressOf l_X8_212 vi_X0_addressOf (by first | exact hc0 | exact hK'.at rfl) ⟨by decide, rfl⟩ (Nat.le_of_ble_eq_true rfl) (Nat.zero_le _) (Nat.zero_le _) (Nat.le_of_ble_eq_true rfl) (?_))))
          rw [eB, if_pos (Nat.lt_of_lt_of_le hk hn2), eA]
          refine J_virtF (pq := 91) dX8_read_88 rfl (j_X0_cell (w := 1) hC' (by omega) (by omega)) rfl tg_X0_cell l_X8_170 vi_X0_cell hc0 ⟨by decide, rfl⟩ (Nat.le_of_ble_eq_true rfl) (Nat.zero_le _) (Nat.zero_le _) (Nat.le_of_ble_eq_true rfl) (?_)
          rw [show xCell G q s 1 (xAdr h q s k) = gi h src (xAdr h q s k) from by
            unfold xCell; rw [if_neg (by omega), if_pos hal, if_pos rfl, eg _ _ (by omega), ← hsrc, if_pos c]]
          exact fin
        · refine J_iconst (pq := 77) dX8_read_76 rfl c_iconst_2 (J_goto (tgt := 81) dX8_read_77 rfl (J_aload (pq := 83) dX8_read_81 rfl rfl (J_iload (pq := 85) dX8_read_83 rfl rfl (J_virtF (pq := 88) dX8_read_85 rfl (j_X0_addressOf hC' (by omega)) rfl tg_X0_addressOf l_X8_212 vi_X0_addressOf (by first | exact hc0 | exact hK'.at rfl) ⟨by decide, rfl⟩ (Nat.le_of_ble_eq_true rfl) (Nat.zero_le _) (Nat.zero_le _) (Nat.le_of_ble_eq_true rfl) (?_)))))
          rw [eB, if_pos (Nat.lt_of_lt_of_le hk hn2), eA]
          refine J_virtF (pq := 91) dX8_read_88 rfl (j_X0_cell (w := 2) hC' (by omega) (by omega)) rfl tg_X0_cell l_X8_170 vi_X0_cell hc0 ⟨by decide, rfl⟩ (Nat.le_of_ble_eq_true rfl) (Nat.zero_le _) (Nat.zero_le _) (Nat.le_of_ble_eq_true rfl) (?_)
          rw [show xCell G q s 2 (xAdr h q s k) = gi h src (xAdr h q s k) from by
            unfold xCell; rw [if_neg (by omega), if_pos hal, if_neg (by omega), if_pos rfl, eg _ _ (by omega), ← hsrc, if_neg c]]
          exact fin
  · rw [b0_255 hf, b1_8 hw] at c; exact absurd c (by decide)
end D3
