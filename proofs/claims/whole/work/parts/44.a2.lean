-- the class: a chip
/-- a chip of s blocks lies at q and behind -/
def CK (h : JH) (q s : Nat) : Prop := ((kd h)[q]? = some (0, 17) ∧ (kd h)[q + 1]? = some (52, 8) ∧ (kd h)[q + 2]? = some (52, 28) ∧ (kd h)[q + 3]? = some (50, 8 * s) ∧ (kd h)[q + 4]? = some (50, 8 * s) ∧ (kd h)[q + 5]? = some (50, 8 * s) ∧ (kd h)[q + 6]? = some (50, 8 * s) ∧ (kd h)[q + 7]? = some (50, 8 * s)) ∧ (gr h q 8 = some (q + 3) ∧ gr h q 9 = some (q + 4) ∧ gr h q 10 = some (q + 5) ∧ gr h q 11 = some (q + 6) ∧ gr h q 12 = some (q + 7) ∧ gr h q 13 = some (q + 1) ∧ gr h q 14 = some (q + 2)) ∧ gi h q 0 = nI (8 * s) ∧ 1 ≤ s ∧ s ≤ 8
theorem CK.of3 {h g : JH} {q s : Nat} (hC : CK h q s) (e : g.2.2 = h.2.2) (e0 : gi g q 0 = gi h q 0) : CK g q s := by
  have ek : kd g = kd h := by show g.2.2.2 = h.2.2.2; rw [e]
  have er : ∀ a b, gr g a b = gr h a b := fun a b => by show g.2.2.1 a b = h.2.2.1 a b; rw [e]
  unfold CK
  rw [ek, e0]
  simp only [er]
  exact hC
def xLack (h : JH) (q p : Nat) : Bool := decide (¬ gi h (q + 2) p = 0)
def xBad (h : JH) (q b : Nat) : Bool := decide (¬ gi h (q + 1) b = 0)
section A2
variable {x : JX} {h : JH} {q s : Nat}
theorem j_X0_isAddress {v : Int32} (hC : CK h q s) : JF x yX0_isAddress cX0_isAddress 2 (some .boolean) 0 0 0 [.ref q, .int v] h (some (.int (bi (isin v 0 (nI (8 * s) - 1))))) h := by
  obtain ⟨⟨hc0, hc1, hc2, hc3, hc4, hc5, hc6, hc7⟩, ⟨hr8, hr9, hr10, hr11, hr12, hr13, hr14⟩, hz, hs1, hs2⟩ := hC
  have hin : isin v 0 (nI (8 * s) - 1) = true ↔ ∃ k, k < 8 * s ∧ v = nI k := isinN (by omega)
  refine JM_of [some (.ref q), some (.int v)] (by decide) (Nat.le_of_ble_eq_true rfl) rfl ?_
  refine J_iload_n (pq := 1) dX0_isAddress_0 rfl rfl (J_if_lt (pq := 4) (tgt := 16) dX0_isAddress_1 rfl rfl (fun c => ?_) (fun c => ?_))
  · refine J_iconst (pq := 17) dX0_isAddress_16 rfl c_iconst_0 (J_iret dX0_isAddress_17 rfl (by first | rfl | exact bi_nar _) ?_)
    refine ⟨?_, rfl⟩
    rw [show isin v 0 (nI (8 * s) - 1) = false from Bool.eq_false_iff.mpr (fun z => by rw [isin_t] at z; have := z.1; rw [ti_lt] at c; simp at c this; omega)]
    rfl
  · obtain ⟨k, hk31, rfl⟩ := nI_of c
    refine J_iload_n (pq := 5) dX0_isAddress_4 rfl rfl (J_aload_n (pq := 6) dX0_isAddress_5 rfl rfl (J_getI (pq := 9) dX0_isAddress_6 rfl f_X0_22 jsI (by first | exact hc0 | exact hc1 | exact hc2 | exact hc3 | exact hc4 | exact hc5 | exact hc6 | exact hc7) (J_icmp_ge (pq := 12) (tgt := 16) dX0_isAddress_9 rfl rfl (fun c => ?_) (fun c => ?_))))
    · rw [hz, nI_leI (by omega) (by omega)] at c
      refine J_iconst (pq := 17) dX0_isAddress_16 rfl c_iconst_0 (J_iret dX0_isAddress_17 rfl (by first | rfl | exact bi_nar _) ?_)
      refine ⟨?_, rfl⟩
      rw [show isin (nI k) 0 (nI (8 * s) - 1) = false from Bool.eq_false_iff.mpr (fun z => by obtain ⟨j, hj, e⟩ := hin.mp z; rw [nI_eq hk31 (by omega)] at e; omega)]
      rfl
    · rw [hz, nI_leI (by omega) (by omega)] at c
      refine J_iconst (pq := 13) dX0_isAddress_12 rfl c_iconst_1 (J_goto (tgt := 17) dX0_isAddress_13 rfl (J_iret dX0_isAddress_17 rfl (by first | rfl | exact bi_nar _) ?_))
      refine ⟨?_, rfl⟩
      rw [hin.mpr ⟨k, by omega, rfl⟩]
      rfl
theorem isA {s k : Nat} (hs : s ≤ 8) (hk : k < 8 * s) : isin (nI k) 0 (nI (8 * s) - 1) = true := (isinN (by omega)).mpr ⟨k, hk, rfl⟩
theorem j_X0_blockCount (hC : CK h q s) : JF x yX0_blockCount cX0_blockCount 1 (some .int) 0 0 0 [.ref q] h (some (.int (nI s))) h := by
  obtain ⟨⟨hc0, hc1, hc2, hc3, hc4, hc5, hc6, hc7⟩, -, hz, hs1, hs2⟩ := hC
  refine JM_of [some (.ref q)] (by decide) (Nat.le_of_ble_eq_true rfl) rfl ?_
  refine J_aload_n (pq := 1) dX0_blockCount_0 rfl rfl (J_getI (pq := 4) dX0_blockCount_1 rfl f_X0_22 jsI (by first | exact hc0 | exact hc1 | exact hc2 | exact hc3 | exact hc4 | exact hc5 | exact hc6 | exact hc7) (J_bipush (pq := 6) dX0_blockCount_4 rfl c_bipush_8 (J_idiv (pq := 7) dX0_blockCount_6 rfl (by decide) (J_iret dX0_blockCount_7 rfl rfl ?_))))
  refine ⟨?_, rfl⟩
  rw [hz, id8 (by omega), show 8 * s / 8 = s by omega]
theorem j_X0_setNeed {a v : Int32} (hC : CK h q s) : JF x yX0_setNeed cX0_setNeed 3 (some .boolean) 1 0 0 [.ref q, .int a, .int v] h (some (.int (bi (isin a 0 (nI (8 * s) - 1))))) (if isin a 0 (nI (8 * s) - 1) then si h (q + 5) (ix a) v else h) := by
  have hC0 := hC
  obtain ⟨⟨hc0, hc1, hc2, hc3, hc4, hc5, hc6, hc7⟩, ⟨hr8, hr9, hr10, hr11, hr12, hr13, hr14⟩, hz, hs1, hs2⟩ := hC
  refine JM_of [some (.ref q), some (.int a), some (.int v)] (by decide) (Nat.le_of_ble_eq_true rfl) rfl ?_
  refine J_aload_n (pq := 1) dX0_setNeed_0 rfl rfl (J_iload_n (pq := 2) dX0_setNeed_1 rfl rfl (J_virtF (pq := 5) dX0_setNeed_2 rfl (j_X0_isAddress hC0) rfl tg_X0_isAddress l_X0_70 vi_X0_isAddress (by first | exact hc0 | exact hc1 | exact hc2 | exact hc3 | exact hc4 | exact hc5 | exact hc6 | exact hc7) ⟨by decide, rfl⟩ (Nat.le_of_ble_eq_true rfl) (Nat.zero_le _) (Nat.zero_le _) (Nat.le_of_ble_eq_true rfl) (J_if_ne (pq := 8) (tgt := 10) dX0_setNeed_5 rfl rfl (fun c => ?_) (fun c => ?_))))
  · rw [bi_0, Bool.not_eq_false] at c
    obtain ⟨k, hk, rfl⟩ := (isinN (by omega)).mp c
    have hb : vp_in (nI k) (8 * s) := vp_in_nI hk (by omega)
    refine J_aload_n (pq := 11) dX0_setNeed_10 rfl rfl (J_getA (pq := 14) dX0_setNeed_11 rfl f_X0_40 (by decide +kernel) (by first | exact hc0 | exact hc1 | exact hc2 | exact hc3 | exact hc4 | exact hc5 | exact hc6 | exact hc7) (by first | exact hr8 | exact hr9 | exact hr10 | exact hr11 | exact hr12 | exact hr13 | exact hr14) (J_iload_n (pq := 15) dX0_setNeed_14 rfl rfl (J_iload_n (pq := 16) dX0_setNeed_15 rfl rfl (J_iast (pq := 17) dX0_setNeed_16 rfl (by first | exact hc0 | exact hc1 | exact hc2 | exact hc3 | exact hc4 | exact hc5 | exact hc6 | exact hc7) (by assumption) (J_iconst (pq := 18) dX0_setNeed_17 rfl c_iconst_1 (J_iret dX0_setNeed_18 rfl (by first | rfl | exact bi_nar _) ?_))))))
    exact ⟨by rw [c]; rfl, by rw [if_pos c]⟩
  · rw [bi_0] at c
    refine J_iconst (pq := 9) dX0_setNeed_8 rfl c_iconst_0 (J_iret dX0_setNeed_9 rfl (by first | rfl | exact bi_nar _) ?_)
    exact ⟨by rw [c]; rfl, by rw [if_neg (by rw [c]; decide)]⟩
theorem j_X0_setBad {a v : Int32} (hC : CK h q s) : JF x yX0_setBad cX0_setBad 3 (some .boolean) 1 0 0 [.ref q, .int a, .int v] h (some (.int (bi (isin a 0 (nI s - 1))))) (if isin a 0 (nI s - 1) then si h (q + 1) (ix a) (v &&& 1) else h) := by
  have hC0 := hC
  obtain ⟨⟨hc0, hc1, hc2, hc3, hc4, hc5, hc6, hc7⟩, ⟨hr8, hr9, hr10, hr11, hr12, hr13, hr14⟩, hz, hs1, hs2⟩ := hC
  refine JM_of [some (.ref q), some (.int a), some (.int v)] (by decide) (Nat.le_of_ble_eq_true rfl) rfl ?_
  refine J_iload_n (pq := 1) dX0_setBad_0 rfl rfl (J_iconst (pq := 2) dX0_setBad_1 rfl c_iconst_0 (J_aload_n (pq := 3) dX0_setBad_2 rfl rfl (J_virtF (pq := 6) dX0_setBad_3 rfl (j_X0_blockCount hC0) rfl tg_X0_blockCount l_X0_73 vi_X0_blockCount (by first | exact hc0 | exact hc1 | exact hc2 | exact hc3 | exact hc4 | exact hc5 | exact hc6 | exact hc7) ⟨by decide, rfl⟩ (Nat.le_of_ble_eq_true rfl) (Nat.zero_le _) (Nat.zero_le _) (Nat.le_of_ble_eq_true rfl) (J_iconst (pq := 7) dX0_setBad_6 rfl c_iconst_1 (J_isub (pq := 8) dX0_setBad_7 rfl (J_statF (pq := 11) dX0_setBad_8 rfl (j_X8_isWithin) rfl tg_X8_isWithin l_X0_77 st_X8_isWithin (Nat.le_of_ble_eq_true rfl) (Nat.zero_le _) (Nat.zero_le _) (Nat.le_of_ble_eq_true rfl) (J_if_ne (pq := 14) (tgt := 16) dX0_setBad_11 rfl rfl (fun c => ?_) (fun c => ?_))))))))
  · rw [bi_0, Bool.not_eq_false] at c
    obtain ⟨k, hk, rfl⟩ := (isinN (by omega)).mp c
    have hb : vp_in (nI k) 8 := vp_in_nI (by omega) (by omega)
    refine J_aload_n (pq := 17) dX0_setBad_16 rfl rfl (J_getA (pq := 20) dX0_setBad_17 rfl f_X0_9 (by decide +kernel) (by first | exact hc0 | exact hc1 | exact hc2 | exact hc3 | exact hc4 | exact hc5 | exact hc6 | exact hc7) (by first | exact hr8 | exact hr9 | exact hr10 | exact hr11 | exact hr12 | exact hr13 | exact hr14) (J_iload_n (pq := 21) dX0_setBad_20 rfl rfl (J_iload_n (pq := 22) dX0_setBad_21 rfl rfl (J_zast (pq := 23) dX0_setBad_22 rfl (by first | exact hc0 | exact hc1 | exact hc2 | exact hc3 | exact hc4 | exact hc5 | exact hc6 | exact hc7) (by assumption) (J_iconst (pq := 24) dX0_setBad_23 rfl c_iconst_1 (J_iret dX0_setBad_24 rfl (by first | rfl | exact bi_nar _) ?_))))))
    exact ⟨by rw [c]; rfl, by rw [if_pos c]⟩
  · rw [bi_0] at c
    refine J_iconst (pq := 15) dX0_setBad_14 rfl c_iconst_0 (J_iret dX0_setBad_15 rfl (by first | rfl | exact bi_nar _) ?_)
    exact ⟨by rw [c]; rfl, by rw [if_neg (by rw [c]; decide)]⟩
theorem j_X0_setContact {a v : Int32} (hC : CK h q s) : JF x yX0_setContact cX0_setContact 3 (some .boolean) 1 0 0 [.ref q, .int a, .int v] h (some (.int (bi (isin a 0 27)))) (if isin a 0 27 then si h (q + 2) (ix a) (bi (decide (v = 0))) else h) := by
  have hC0 := hC
  obtain ⟨⟨hc0, hc1, hc2, hc3, hc4, hc5, hc6, hc7⟩, ⟨hr8, hr9, hr10, hr11, hr12, hr13, hr14⟩, hz, hs1, hs2⟩ := hC
  refine JM_of [some (.ref q), some (.int a), some (.int v)] (by decide) (Nat.le_of_ble_eq_true rfl) rfl ?_
  refine J_iload_n (pq := 1) dX0_setContact_0 rfl rfl (J_iconst (pq := 2) dX0_setContact_1 rfl c_iconst_0 (J_bipush (pq := 4) dX0_setContact_2 rfl c_bipush_27 (J_statF (pq := 7) dX0_setContact_4 rfl (j_X8_isWithin) rfl tg_X8_isWithin l_X0_77 st_X8_isWithin (Nat.le_of_ble_eq_true rfl) (Nat.zero_le _) (Nat.zero_le _) (Nat.le_of_ble_eq_true rfl) (J_if_ne (pq := 10) (tgt := 12) dX0_setContact_7 rfl rfl (fun c => ?_) (fun c => ?_)))))
  · rw [bi_0, Bool.not_eq_false] at c
    have c1 := c
    obtain ⟨k, hk, rfl⟩ := (isK (n := 27) (by omega)).mp c
    have hb : vp_in (nI k) 28 := vp_in_nI (by omega) (by omega)
    refine J_aload_n (pq := 13) dX0_setContact_12 rfl rfl (J_getA (pq := 16) dX0_setContact_13 rfl f_X0_15 (by decide +kernel) (by first | exact hc0 | exact hc1 | exact hc2 | exact hc3 | exact hc4 | exact hc5 | exact hc6 | exact hc7) (by first | exact hr8 | exact hr9 | exact hr10 | exact hr11 | exact hr12 | exact hr13 | exact hr14) (J_iload_n (pq := 17) dX0_setContact_16 rfl rfl (J_iload_n (pq := 18) dX0_setContact_17 rfl rfl (J_if_ne (pq := 21) (tgt := 25) dX0_setContact_18 rfl rfl (fun c => ?_) (fun c => ?_)))))
    · refine J_iconst (pq := 26) dX0_setContact_25 rfl c_iconst_0 (J_zast (pq := 27) dX0_setContact_26 rfl (by first | exact hc0 | exact hc1 | exact hc2 | exact hc3 | exact hc4 | exact hc5 | exact hc6 | exact hc7) (by assumption) (J_iconst (pq := 28) dX0_setContact_27 rfl c_iconst_1 (J_iret dX0_setContact_28 rfl (by first | rfl | exact bi_nar _) ?_)))
      exact ⟨by rw [c1]; rfl, by rw [if_pos c1, decide_eq_false c]; rfl⟩
    · refine J_iconst (pq := 22) dX0_setContact_21 rfl c_iconst_1 (J_goto (tgt := 26) dX0_setContact_22 rfl (J_zast (pq := 27) dX0_setContact_26 rfl (by first | exact hc0 | exact hc1 | exact hc2 | exact hc3 | exact hc4 | exact hc5 | exact hc6 | exact hc7) (by assumption) (J_iconst (pq := 28) dX0_setContact_27 rfl c_iconst_1 (J_iret dX0_setContact_28 rfl (by first | rfl | exact bi_nar _) ?_))))
      exact ⟨by rw [c1]; rfl, by rw [if_pos c1, decide_eq_true (by simpa using c)]; rfl⟩
  · rw [bi_0] at c
    refine J_iconst (pq := 11) dX0_setContact_10 rfl c_iconst_0 (J_iret dX0_setContact_11 rfl (by first | rfl | exact bi_nar _) ?_)
    exact ⟨by rw [c]; rfl, by rw [if_neg (by rw [c]; decide)]⟩
theorem j_X0_setLimits {a b c : Int32} (hc0 : (kd h)[q]? = some (0, 17)) : JF x yX0_setLimits cX0_setLimits 4 none 0 0 0 [.ref q, .int a, .int b, .int c] h none (si (si (si h q 3 a) q 4 b) q 5 c) := by
  refine JM_of [some (.ref q), some (.int a), some (.int b), some (.int c)] (by decide) (Nat.le_of_ble_eq_true rfl) rfl ?_
  refine J_aload_n (pq := 1) dX0_setLimits_0 rfl rfl (J_iload_n (pq := 2) dX0_setLimits_1 rfl rfl (J_putI (pq := 5) dX0_setLimits_2 rfl f_X0_55 (Or.inl rfl) hc0 (J_aload_n (pq := 6) dX0_setLimits_5 rfl rfl (J_iload_n (pq := 7) dX0_setLimits_6 rfl rfl (J_putI (pq := 10) dX0_setLimits_7 rfl f_X0_58 (Or.inl rfl) hc0 (J_aload_n (pq := 11) dX0_setLimits_10 rfl rfl (J_iload_n (pq := 12) dX0_setLimits_11 rfl rfl (J_putI (pq := 15) dX0_setLimits_12 rfl f_X0_61 (Or.inl rfl) hc0 (J_vret dX0_setLimits_15 rfl ?_)))))))))
  exact ⟨rfl, rfl⟩
theorem j_X0_setWear {a b : Int32} (hc0 : (kd h)[q]? = some (0, 17)) : JF x yX0_setWear cX0_setWear 3 none 0 0 0 [.ref q, .int a, .int b] h none (si (si h q 6 a) q 7 b) := by
  refine JM_of [some (.ref q), some (.int a), some (.int b)] (by decide) (Nat.le_of_ble_eq_true rfl) rfl ?_
  refine J_aload_n (pq := 1) dX0_setWear_0 rfl rfl (J_iload_n (pq := 2) dX0_setWear_1 rfl rfl (J_putI (pq := 5) dX0_setWear_2 rfl f_X0_64 (Or.inl rfl) hc0 (J_aload_n (pq := 6) dX0_setWear_5 rfl rfl (J_iload_n (pq := 7) dX0_setWear_6 rfl rfl (J_putI (pq := 10) dX0_setWear_7 rfl f_X0_67 (Or.inl rfl) hc0 (J_vret dX0_setWear_10 rfl ?_))))))
  exact ⟨rfl, rfl⟩
theorem j_X0_firstLackingPin (hC : CK h q s) : JF x yX0_firstLackingPin cX0_firstLackingPin 2 (some .int) 0 0 0 [.ref q] h (some (.int (lkf (xLack h q) 28 0))) h := by
  obtain ⟨⟨hc0, hc1, hc2, hc3, hc4, hc5, hc6, hc7⟩, ⟨hr8, hr9, hr10, hr11, hr12, hr13, hr14⟩, hz, hs1, hs2⟩ := hC
  refine JM_of [some (.ref q), none] (by decide) (Nat.le_of_ble_eq_true rfl) rfl ?_
  refine J_iconst (pq := 1) dX0_firstLackingPin_0 rfl c_iconst_0 (J_istore_m 1 (pq := 2) dX0_firstLackingPin_1 rfl rfl (Nat.le_of_ble_eq_true rfl) (Nat.le_of_ble_eq_true rfl) rfl (?_))
  refine J_loop (σ := Nat) (fun k => [some (.ref q), some (.int (nI k))]) (fun _ => []) (fun _ => h) (fun k => k ≤ 28 ∧ lkf (xLack h q) (28 - k) k = lkf (xLack h q) 28 0) (fun k => 28 - k) 0 rfl rfl rfl ⟨by omega, rfl⟩ (fun k hk ih => ?_)
  refine J_iload_n (pq := 3) dX0_firstLackingPin_2 rfl rfl (J_bipush (pq := 5) dX0_firstLackingPin_3 rfl c_bipush_28 (J_icmp_ge (pq := 8) (tgt := 25) dX0_firstLackingPin_5 rfl rfl (fun c => ?_) (fun c => ?_)))
  · rw [show (28 : Int32) = nI 28 from rfl, nI_leI (by omega) (by omega)] at c
    refine J_iconst (pq := 26) dX0_firstLackingPin_25 rfl c_iconst_m1 (J_iret dX0_firstLackingPin_26 rfl rfl ?_)
    refine ⟨?_, rfl⟩
    rw [← hk.2, show 28 - k = 0 by omega]
    rfl
  · rw [show (28 : Int32) = nI 28 from rfl, nI_leI (by omega) (by omega)] at c
    have hb : vp_in (nI k) 28 := vp_in_nI (by omega) (by omega)
    have hx : ix (nI k) = k := ixn (by omega)
    have hk2 := hk.2
    rw [show 28 - k = (28 - (k + 1)) + 1 by omega, lkf] at hk2
    refine J_aload_n (pq := 9) dX0_firstLackingPin_8 rfl rfl (J_getA (pq := 12) dX0_firstLackingPin_9 rfl f_X0_15 (by decide +kernel) (by first | exact hc0 | exact hc1 | exact hc2 | exact hc3 | exact hc4 | exact hc5 | exact hc6 | exact hc7) (by first | exact hr8 | exact hr9 | exact hr10 | exact hr11 | exact hr12 | exact hr13 | exact hr14) (J_iload_n (pq := 13) dX0_firstLackingPin_12 rfl rfl (J_zald (pq := 14) dX0_firstLackingPin_13 rfl (by first | exact hc0 | exact hc1 | exact hc2 | exact hc3 | exact hc4 | exact hc5 | exact hc6 | exact hc7) (by assumption) (J_if_eq (pq := 17) (tgt := 19) dX0_firstLackingPin_14 rfl rfl (fun c => ?_) (fun c => ?_)))))
    · rw [hx] at c
      refine J_iinc (pq := 22) dX0_firstLackingPin_19 rfl c_iconst_1 rfl (Nat.le_of_ble_eq_true rfl) rfl (J_goto (tgt := 2) dX0_firstLackingPin_22 rfl (?_))
      rw [if_neg (by simp [xLack, c])] at hk2
      refine J_eq ?_ rfl rfl (ih (k + 1) ⟨by omega, hk2⟩ (by omega))
      simp [nI_1]
    · rw [hx] at c
      refine J_iload_n (pq := 18) dX0_firstLackingPin_17 rfl rfl (J_iret dX0_firstLackingPin_18 rfl rfl ?_)
      rw [if_pos (by simp [xLack, c])] at hk2
      exact ⟨by rw [← hk2], rfl⟩
theorem j_X0_logicalCount (hC : CK h q s) : JF x yX0_logicalCount cX0_logicalCount 3 (some .int) 1 0 0 [.ref q] h (some (.int (nI (8 * goodc (xBad h q) s)))) h := by
  have hC0 := hC
  obtain ⟨⟨hc0, hc1, hc2, hc3, hc4, hc5, hc6, hc7⟩, ⟨hr8, hr9, hr10, hr11, hr12, hr13, hr14⟩, hz, hs1, hs2⟩ := hC
  refine JM_of [some (.ref q), none, none] (by decide) (Nat.le_of_ble_eq_true rfl) rfl ?_
  refine J_iconst (pq := 1) dX0_logicalCount_0 rfl c_iconst_0 (J_istore_m 1 (pq := 2) dX0_logicalCount_1 rfl rfl (Nat.le_of_ble_eq_true rfl) (Nat.le_of_ble_eq_true rfl) rfl (J_iconst (pq := 3) dX0_logicalCount_2 rfl c_iconst_0 (J_istore_m 2 (pq := 4) dX0_logicalCount_3 rfl rfl (Nat.le_of_ble_eq_true rfl) (Nat.le_of_ble_eq_true rfl) rfl (?_))))
  refine J_loop (σ := Nat) (fun k => [some (.ref q), some (.int (nI (goodc (xBad h q) k))), some (.int (nI k))]) (fun _ => []) (fun _ => h) (fun k => k ≤ s) (fun k => s - k) 0 rfl rfl rfl (by omega) (fun k hk ih => ?_)
  have hgl := goodc_le (xBad h q) k
  refine J_iload_n (pq := 5) dX0_logicalCount_4 rfl rfl (J_aload_n (pq := 6) dX0_logicalCount_5 rfl rfl (J_virtF (pq := 9) dX0_logicalCount_6 rfl (j_X0_blockCount hC0) rfl tg_X0_blockCount l_X0_73 vi_X0_blockCount (by first | exact hc0 | exact hc1 | exact hc2 | exact hc3 | exact hc4 | exact hc5 | exact hc6 | exact hc7) ⟨by decide, rfl⟩ (Nat.le_of_ble_eq_true rfl) (Nat.zero_le _) (Nat.zero_le _) (Nat.le_of_ble_eq_true rfl) (J_icmp_ge (pq := 12) (tgt := 30) dX0_logicalCount_9 rfl rfl (fun c => ?_) (fun c => ?_))))
  · rw [nI_leI (by omega) (by omega)] at c
    refine J_iload_n (pq := 31) dX0_logicalCount_30 rfl rfl (J_bipush (pq := 33) dX0_logicalCount_31 rfl c_bipush_8 (J_imul (pq := 34) dX0_logicalCount_33 rfl (J_iret dX0_logicalCount_34 rfl rfl ?_)))
    have : k = s := by omega
    subst this
    refine ⟨?_, rfl⟩
    rw [show (8 : Int32) = nI 8 from rfl, pk_mul, Nat.mul_comm]
  · rw [nI_leI (by omega) (by omega)] at c
    have hb : vp_in (nI k) 8 := vp_in_nI (by omega) (by omega)
    have hx : ix (nI k) = k := ixn (by omega)
    refine J_aload_n (pq := 13) dX0_logicalCount_12 rfl rfl (J_getA (pq := 16) dX0_logicalCount_13 rfl f_X0_9 (by decide +kernel) (by first | exact hc0 | exact hc1 | exact hc2 | exact hc3 | exact hc4 | exact hc5 | exact hc6 | exact hc7) (by first | exact hr8 | exact hr9 | exact hr10 | exact hr11 | exact hr12 | exact hr13 | exact hr14) (J_iload_n (pq := 17) dX0_logicalCount_16 rfl rfl (J_zald (pq := 18) dX0_logicalCount_17 rfl (by first | exact hc0 | exact hc1 | exact hc2 | exact hc3 | exact hc4 | exact hc5 | exact hc6 | exact hc7) (by assumption) (J_if_ne (pq := 21) (tgt := 24) dX0_logicalCount_18 rfl rfl (fun c => ?_) (fun c => ?_)))))
    · rw [hx] at c
      refine J_iinc (pq := 27) dX0_logicalCount_24 rfl c_iconst_1 rfl (Nat.le_of_ble_eq_true rfl) rfl (J_goto (tgt := 4) dX0_logicalCount_27 rfl (?_))
      refine J_eq ?_ rfl rfl (ih (k + 1) (by omega) (by omega))
      have : xBad h q k = true := by simp [xBad, c]
      simp only [goodc, this, nI_1]
      rfl
    · rw [hx] at c
      refine J_iinc (pq := 24) dX0_logicalCount_21 rfl c_iconst_1 rfl (Nat.le_of_ble_eq_true rfl) rfl (J_iinc (pq := 27) dX0_logicalCount_24 rfl c_iconst_1 rfl (Nat.le_of_ble_eq_true rfl) rfl (J_goto (tgt := 4) dX0_logicalCount_27 rfl (?_)))
      refine J_eq ?_ rfl rfl (ih (k + 1) (by omega) (by omega))
      have : xBad h q k = false := by simp [xBad] at c ⊢; exact c
      simp only [goodc, this, nI_1]
      rfl
/-- where a logical address lies, or -1 -/
def xAdr (h : JH) (q s k : Nat) : Nat := 8 * nthg (xBad h q) s (k / 8) 0 + k % 8
theorem goodr_le (f : Nat → Bool) : ∀ n b, goodr f n b ≤ n := by
  intro n
  induction n with
  | zero => intro b; simp [goodr]
  | succ n ih => intro b; have := ih (b + 1); simp only [goodr]; split <;> omega
theorem j_X0_addressOf_neg {v : Int32} (hv : v < 0) : JF x yX0_addressOf cX0_addressOf 4 (some .int) 1 0 0 [.ref q, .int v] h (some (.int (-1))) h := by
  refine JM_of [some (.ref q), some (.int v), none, none] (by decide) (Nat.le_of_ble_eq_true rfl) rfl ?_
  refine J_iload_n (pq := 1) dX0_addressOf_0 rfl rfl (J_if_ge (pq := 4) (tgt := 6) dX0_addressOf_1 rfl rfl (fun c => ?_) (fun c => ?_))
  · exact absurd hv (i_nlt.mpr c)
  · refine J_iconst (pq := 5) dX0_addressOf_4 rfl c_iconst_m1 (J_iret dX0_addressOf_5 rfl rfl ?_)
    exact ⟨rfl, rfl⟩
theorem j_X0_addressOf {k : Nat} (hC : CK h q s) (hk : k < 2147483648) : JF x yX0_addressOf cX0_addressOf 4 (some .int) 1 0 0 [.ref q, .int (nI k)] h (some (.int (if k < 8 * goodc (xBad h q) s then nI (xAdr h q s k) else -1))) h := by
  have hC0 := hC
  obtain ⟨⟨hc0, hc1, hc2, hc3, hc4, hc5, hc6, hc7⟩, ⟨hr8, hr9, hr10, hr11, hr12, hr13, hr14⟩, hz, hs1, hs2⟩ := hC
  refine JM_of [some (.ref q), some (.int (nI k)), none, none] (by decide) (Nat.le_of_ble_eq_true rfl) rfl ?_
  refine J_iload_n (pq := 1) dX0_addressOf_0 rfl rfl (J_if_ge (pq := 4) (tgt := 6) dX0_addressOf_1 rfl rfl (fun c => ?_) (fun c => ?_))
  · refine J_iload_n (pq := 7) dX0_addressOf_6 rfl rfl (J_bipush (pq := 9) dX0_addressOf_7 rfl c_bipush_8 (J_idiv (pq := 10) dX0_addressOf_9 rfl (by decide) (J_istore_m 2 (pq := 11) dX0_addressOf_10 rfl rfl (Nat.le_of_ble_eq_true rfl) (Nat.le_of_ble_eq_true rfl) rfl (J_iconst (pq := 12) dX0_addressOf_11 rfl c_iconst_0 (J_istore_m 3 (pq := 13) dX0_addressOf_12 rfl rfl (Nat.le_of_ble_eq_true rfl) (Nat.le_of_ble_eq_true rfl) rfl (?_))))))
    refine J_loop (σ := Nat × Nat) (fun p => [some (.ref q), some (.int (nI k)), some (.int (nI p.1)), some (.int (nI p.2))]) (fun _ => []) (fun _ => h) (fun p => p.1 ≤ k ∧ p.2 ≤ s ∧ (p.1 < goodr (xBad h q) (s - p.2) p.2 ↔ k < 8 * goodc (xBad h q) s) ∧ (k < 8 * goodc (xBad h q) s → nthg (xBad h q) (s - p.2) p.1 p.2 = nthg (xBad h q) s (k / 8) 0)) (fun p => s - p.2) (k / 8, 0) (by rw [id8 (by omega)]; rfl) rfl rfl ⟨by simp only; omega, by simp, by simp only [Nat.sub_zero]; rw [goodr_c]; omega, by simp⟩ (fun p hp ih => ?_)
    obtain ⟨z, b⟩ := p
    obtain ⟨hp0, hp1, hp2, hp3⟩ := hp
    simp only at hp0 hp1 hp2 hp3 ih ⊢
    refine J_iload_n (pq := 14) dX0_addressOf_13 rfl rfl (J_aload_n (pq := 15) dX0_addressOf_14 rfl rfl (J_virtF (pq := 18) dX0_addressOf_15 rfl (j_X0_blockCount hC0) rfl tg_X0_blockCount l_X0_73 vi_X0_blockCount (by first | exact hc0 | exact hc1 | exact hc2 | exact hc3 | exact hc4 | exact hc5 | exact hc6 | exact hc7) ⟨by decide, rfl⟩ (Nat.le_of_ble_eq_true rfl) (Nat.zero_le _) (Nat.zero_le _) (Nat.le_of_ble_eq_true rfl) (J_icmp_ge (pq := 21) (tgt := 53) dX0_addressOf_18 rfl rfl (fun c => ?_) (fun c => ?_))))
    · rw [nI_leI (by omega) (by omega)] at c
      rw [show s - b = 0 by omega] at hp2
      simp [goodr] at hp2
      refine J_iconst (pq := 54) dX0_addressOf_53 rfl c_iconst_m1 (J_iret dX0_addressOf_54 rfl rfl ?_)
      refine ⟨?_, rfl⟩
      rw [if_neg (by omega)]
    · rw [nI_leI (by omega) (by omega)] at c
      have hb : vp_in (nI b) 8 := vp_in_nI (by omega) (by omega)
      have hx : ix (nI b) = b := ixn (by omega)
      rw [show s - b = (s - (b + 1)) + 1 by omega] at hp2 hp3
      simp only [goodr] at hp2
      simp only [nthg] at hp3
      refine J_aload_n (pq := 22) dX0_addressOf_21 rfl rfl (J_getA (pq := 25) dX0_addressOf_22 rfl f_X0_9 (by decide +kernel) (by first | exact hc0 | exact hc1 | exact hc2 | exact hc3 | exact hc4 | exact hc5 | exact hc6 | exact hc7) (by first | exact hr8 | exact hr9 | exact hr10 | exact hr11 | exact hr12 | exact hr13 | exact hr14) (J_iload_n (pq := 26) dX0_addressOf_25 rfl rfl (J_zald (pq := 27) dX0_addressOf_26 rfl (by first | exact hc0 | exact hc1 | exact hc2 | exact hc3 | exact hc4 | exact hc5 | exact hc6 | exact hc7) (by assumption) (J_if_ne (pq := 30) (tgt := 47) dX0_addressOf_27 rfl rfl (fun c => ?_) (fun c => ?_)))))
      · rw [hx] at c
        have hbad : xBad h q b = true := by simp [xBad, c]
        rw [if_pos hbad] at hp2 hp3
        refine J_iinc (pq := 50) dX0_addressOf_47 rfl c_iconst_1 rfl (Nat.le_of_ble_eq_true rfl) rfl (J_goto (tgt := 13) dX0_addressOf_50 rfl (?_))
        refine J_eq ?_ rfl rfl (ih (z, b + 1) ⟨hp0, by simp only; omega, by simp only; rw [← hp2]; omega, hp3⟩ (by simp only; omega))
        simp [nI_1]
      · rw [hx] at c
        have hbad : xBad h q b = false := by simp [xBad] at c ⊢; exact c
        rw [if_neg (by rw [hbad]; decide)] at hp2 hp3
        refine J_iload_n (pq := 31) dX0_addressOf_30 rfl rfl (J_if_ne (pq := 34) (tgt := 44) dX0_addressOf_31 rfl rfl (fun c => ?_) (fun c => ?_))
        · rw [show (0 : Int32) = nI 0 from rfl, nI_eq (by omega) (by omega)] at c
          rw [if_neg (by omega)] at hp3
          refine J_iinc (pq := 47) dX0_addressOf_44 rfl c_iconst_m1 rfl (Nat.le_of_ble_eq_true rfl) rfl (J_iinc (pq := 50) dX0_addressOf_47 rfl c_iconst_1 rfl (Nat.le_of_ble_eq_true rfl) rfl (J_goto (tgt := 13) dX0_addressOf_50 rfl (?_)))
          refine J_eq ?_ rfl rfl (ih (z - 1, b + 1) ⟨by simp only; omega, by simp only; omega, by simp only; rw [← hp2]; omega, hp3⟩ (by simp only; omega))
          simp [nI_1, show nI z + -1 = nI (z - 1) from by rw [show z = (z - 1) + 1 by omega, ← nI_1]; simp [Int32.add_assoc]]
        · rw [show (0 : Int32) = nI 0 from rfl, nI_eq (by omega) (by omega)] at c
          rw [if_pos (by omega)] at hp3
          refine J_iload_n (pq := 35) dX0_addressOf_34 rfl rfl (J_bipush (pq := 37) dX0_addressOf_35 rfl c_bipush_8 (J_imul (pq := 38) dX0_addressOf_37 rfl (J_iload_n (pq := 39) dX0_addressOf_38 rfl rfl (J_bipush (pq := 41) dX0_addressOf_39 rfl c_bipush_8 (J_irem (pq := 42) dX0_addressOf_41 rfl (by decide) (J_iadd (pq := 43) dX0_addressOf_42 rfl (J_iret dX0_addressOf_43 rfl rfl ?_)))))))
          refine ⟨?_, rfl⟩
          have hlt : k < 8 * goodc (xBad h q) s := hp2.mp (by omega)
          rw [if_pos hlt, ir8 (by omega), show (8 : Int32) = nI 8 from rfl, pk_mul, nI_add, xAdr, ← hp3 hlt, Nat.mul_comm b 8]
  · rw [show (0 : Int32) = nI 0 from rfl, nI_leI (by omega) (by omega)] at c; omega
theorem xAdr_lt {k : Nat} (hk : k < 8 * goodc (xBad h q) s) : xAdr h q s k < 8 * s := by
  have := nthg_lt (xBad h q) s (k / 8) 0 (by rw [goodr_c]; omega)
  unfold xAdr
  omega
theorem j_X0_isRight {a : Nat} {v : Int32} (hC : CK h q s) (ha : a < 8 * s) : JF x yX0_isRight cX0_isRight 3 (some .boolean) 1 0 0 [.ref q, .int (nI a), .int v] h (some (.int (bi (decide (gi h (q + 3) a = v) && decide (gi h (q + 4) a = v))))) h := by
  have hC0 := hC
  obtain ⟨⟨hc0, hc1, hc2, hc3, hc4, hc5, hc6, hc7⟩, ⟨hr8, hr9, hr10, hr11, hr12, hr13, hr14⟩, hz, hs1, hs2⟩ := hC
  refine JM_of [some (.ref q), some (.int (nI a)), some (.int v)] (by decide) (Nat.le_of_ble_eq_true rfl) rfl ?_
  have hb : vp_in (nI a) (8 * s) := vp_in_nI ha (by omega)
  have hx : ix (nI a) = a := ixn (by omega)
  refine J_aload_n (pq := 1) dX0_isRight_0 rfl rfl (J_iload_n (pq := 2) dX0_isRight_1 rfl rfl (J_virtF (pq := 5) dX0_isRight_2 rfl (j_X0_isAddress hC0) rfl tg_X0_isAddress l_X0_70 vi_X0_isAddress (by first | exact hc0 | exact hc1 | exact hc2 | exact hc3 | exact hc4 | exact hc5 | exact hc6 | exact hc7) ⟨by decide, rfl⟩ (Nat.le_of_ble_eq_true rfl) (Nat.zero_le _) (Nat.zero_le _) (Nat.le_of_ble_eq_true rfl) (J_if_eq (pq := 8) (tgt := 32) dX0_isRight_5 rfl rfl (fun c => ?_) (fun c => ?_))))
  · rw [isA hs2 ha] at c; exact absurd c (by decide)
  · refine J_aload_n (pq := 9) dX0_isRight_8 rfl rfl (J_getA (pq := 12) dX0_isRight_9 rfl f_X0_33 (by decide +kernel) (by first | exact hc0 | exact hc1 | exact hc2 | exact hc3 | exact hc4 | exact hc5 | exact hc6 | exact hc7) (by first | exact hr8 | exact hr9 | exact hr10 | exact hr11 | exact hr12 | exact hr13 | exact hr14) (J_iload_n (pq := 13) dX0_isRight_12 rfl rfl (J_iald (pq := 14) dX0_isRight_13 rfl (by first | exact hc0 | exact hc1 | exact hc2 | exact hc3 | exact hc4 | exact hc5 | exact hc6 | exact hc7) (by assumption) (J_iload_n (pq := 15) dX0_isRight_14 rfl rfl (J_icmp_ne (pq := 18) (tgt := 32) dX0_isRight_15 rfl rfl (fun c => ?_) (fun c => ?_))))))
    · rw [hx] at c
      refine J_iconst (pq := 33) dX0_isRight_32 rfl c_iconst_0 (J_iret dX0_isRight_33 rfl (by first | rfl | exact bi_nar _) ?_)
      exact ⟨by rw [decide_eq_false c]; rfl, rfl⟩
    · rw [hx] at c
      have c1 := c
      refine J_aload_n (pq := 19) dX0_isRight_18 rfl rfl (J_getA (pq := 22) dX0_isRight_19 rfl f_X0_37 (by decide +kernel) (by first | exact hc0 | exact hc1 | exact hc2 | exact hc3 | exact hc4 | exact hc5 | exact hc6 | exact hc7) (by first | exact hr8 | exact hr9 | exact hr10 | exact hr11 | exact hr12 | exact hr13 | exact hr14) (J_iload_n (pq := 23) dX0_isRight_22 rfl rfl (J_iald (pq := 24) dX0_isRight_23 rfl (by first | exact hc0 | exact hc1 | exact hc2 | exact hc3 | exact hc4 | exact hc5 | exact hc6 | exact hc7) (by assumption) (J_iload_n (pq := 25) dX0_isRight_24 rfl rfl (J_icmp_ne (pq := 28) (tgt := 32) dX0_isRight_25 rfl rfl (fun c => ?_) (fun c => ?_))))))
      · rw [hx] at c
        refine J_iconst (pq := 33) dX0_isRight_32 rfl c_iconst_0 (J_iret dX0_isRight_33 rfl (by first | rfl | exact bi_nar _) ?_)
        exact ⟨by rw [decide_eq_false c, Bool.and_false]; rfl, rfl⟩
      · rw [hx] at c
        refine J_iconst (pq := 29) dX0_isRight_28 rfl c_iconst_1 (J_goto (tgt := 33) dX0_isRight_29 rfl (J_iret dX0_isRight_33 rfl (by first | rfl | exact bi_nar _) ?_))
        exact ⟨by simp_all [bi], rfl⟩
theorem j_X0_mustGoBack {a : Nat} {v : Int32} (hC : CK h q s) (ha : a < 8 * s) : JF x yX0_mustGoBack cX0_mustGoBack 3 (some .boolean) 1 0 0 [.ref q, .int (nI a), .int v] h (some (.int (bi (decide (¬ gi h (q + 3) a &&& gi h (q + 4) a &&& v = v))))) h := by
  have hC0 := hC
  obtain ⟨⟨hc0, hc1, hc2, hc3, hc4, hc5, hc6, hc7⟩, ⟨hr8, hr9, hr10, hr11, hr12, hr13, hr14⟩, hz, hs1, hs2⟩ := hC
  refine JM_of [some (.ref q), some (.int (nI a)), some (.int v)] (by decide) (Nat.le_of_ble_eq_true rfl) rfl ?_
  have hb : vp_in (nI a) (8 * s) := vp_in_nI ha (by omega)
  have hx : ix (nI a) = a := ixn (by omega)
  refine J_aload_n (pq := 1) dX0_mustGoBack_0 rfl rfl (J_iload_n (pq := 2) dX0_mustGoBack_1 rfl rfl (J_virtF (pq := 5) dX0_mustGoBack_2 rfl (j_X0_isAddress hC0) rfl tg_X0_isAddress l_X0_70 vi_X0_isAddress (by first | exact hc0 | exact hc1 | exact hc2 | exact hc3 | exact hc4 | exact hc5 | exact hc6 | exact hc7) ⟨by decide, rfl⟩ (Nat.le_of_ble_eq_true rfl) (Nat.zero_le _) (Nat.zero_le _) (Nat.le_of_ble_eq_true rfl) (J_if_eq (pq := 8) (tgt := 31) dX0_mustGoBack_5 rfl rfl (fun c => ?_) (fun c => ?_))))
  · rw [isA hs2 ha] at c; exact absurd c (by decide)
  · refine J_aload_n (pq := 9) dX0_mustGoBack_8 rfl rfl (J_getA (pq := 12) dX0_mustGoBack_9 rfl f_X0_33 (by decide +kernel) (by first | exact hc0 | exact hc1 | exact hc2 | exact hc3 | exact hc4 | exact hc5 | exact hc6 | exact hc7) (by first | exact hr8 | exact hr9 | exact hr10 | exact hr11 | exact hr12 | exact hr13 | exact hr14) (J_iload_n (pq := 13) dX0_mustGoBack_12 rfl rfl (J_iald (pq := 14) dX0_mustGoBack_13 rfl (by first | exact hc0 | exact hc1 | exact hc2 | exact hc3 | exact hc4 | exact hc5 | exact hc6 | exact hc7) (by assumption) (J_aload_n (pq := 15) dX0_mustGoBack_14 rfl rfl (J_getA (pq := 18) dX0_mustGoBack_15 rfl f_X0_37 (by decide +kernel) (by first | exact hc0 | exact hc1 | exact hc2 | exact hc3 | exact hc4 | exact hc5 | exact hc6 | exact hc7) (by first | exact hr8 | exact hr9 | exact hr10 | exact hr11 | exact hr12 | exact hr13 | exact hr14) (J_iload_n (pq := 19) dX0_mustGoBack_18 rfl rfl (J_iald (pq := 20) dX0_mustGoBack_19 rfl (by first | exact hc0 | exact hc1 | exact hc2 | exact hc3 | exact hc4 | exact hc5 | exact hc6 | exact hc7) (by assumption) (J_iand (pq := 21) dX0_mustGoBack_20 rfl (J_iload_n (pq := 22) dX0_mustGoBack_21 rfl rfl (J_iand (pq := 23) dX0_mustGoBack_22 rfl (J_iload_n (pq := 24) dX0_mustGoBack_23 rfl rfl (J_icmp_eq (pq := 27) (tgt := 31) dX0_mustGoBack_24 rfl rfl (fun c => ?_) (fun c => ?_)))))))))))))
    · rw [hx] at c
      refine J_iconst (pq := 32) dX0_mustGoBack_31 rfl c_iconst_0 (J_iret dX0_mustGoBack_32 rfl (by first | rfl | exact bi_nar _) ?_)
      exact ⟨by rw [decide_eq_false (fun z => z c)]; rfl, rfl⟩
    · rw [hx] at c
      refine J_iconst (pq := 28) dX0_mustGoBack_27 rfl c_iconst_1 (J_goto (tgt := 32) dX0_mustGoBack_28 rfl (J_iret dX0_mustGoBack_32 rfl (by first | rfl | exact bi_nar _) ?_))
      exact ⟨by rw [decide_eq_true c]; rfl, rfl⟩
end A2
