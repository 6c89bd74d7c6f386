-- rows of all cells, from lo on, k of them, changed by f
def rowN (h : JH) (lo k : Nat) (f : Nat → Int32 → Int32) : JH := (fun a b => if lo ≤ b ∧ b < lo + k then f a (h.1 a b) else h.1 a b, h.2)
theorem rowN_0 (h : JH) (lo : Nat) (f : Nat → Int32 → Int32) : rowN h lo 0 f = h := by
  unfold rowN
  have : ∀ a b, (if lo ≤ b ∧ b < lo + 0 then f a (h.1 a b) else h.1 a b) = h.1 a b := fun a b => if_neg (by omega)
  simp only [this]
theorem gi_rowN (h : JH) (lo k : Nat) (f : Nat → Int32 → Int32) (a b : Nat) : gi (rowN h lo k f) a b = if lo ≤ b ∧ b < lo + k then f a (gi h a b) else gi h a b := rfl
theorem rowN_s (h g : JH) (lo k : Nat) (f : Nat → Int32 → Int32) (h2 : g.2 = h.2) (h1 : ∀ a b, gi g a b = if b = lo + k then f a (gi (rowN h lo k f) a b) else gi (rowN h lo k f) a b) : g = rowN h lo (k + 1) f := by
  refine Prod.ext ?_ h2
  funext a b
  show gi g a b = gi (rowN h lo (k + 1) f) a b
  rw [h1 a b, gi_rowN, gi_rowN]
  by_cases hb : b = lo + k
  · subst hb
    rw [if_pos rfl, if_neg (by omega), if_pos (by omega)]
  · rw [if_neg hb]
    by_cases hc : lo ≤ b ∧ b < lo + k
    · rw [if_pos hc, if_pos (by omega)]
    · rw [if_neg hc, if_neg (by omega)]
def fEr (inc : Bool) (a : Nat) (v : Int32) : Int32 := if a = 54 then 255 else if a = 55 then 255 else if a = 57 then 0 else if a = 58 then -1 else if a = 56 ∧ inc = true then v + 1 else v
def fCh (a : Nat) (v : Int32) : Int32 := if a = 54 then 255 else if a = 55 then 255 else if a = 56 then 3 else if a = 58 then -1 else v
/-- the reference's pulse -/
def mPulse (h : JH) (i a : Nat) (dd volts : Int32) : JH :=
  let k := 64 * i + a
  let h1 := sl h 53 i (gl h 53 i + 1)
  if gi h 47 i ≤ volts then
    let n : Int32 := if gi h 58 k = dd then gi h 57 k + 1 else 1
    let h2 := si (si h1 57 k n) 58 k dd
    let h3 := if gi h 56 k ≤ n then si h2 54 k (gi h 54 k &&& dd) else h2
    if gi h 56 k + gi h 50 i ≤ n then si h3 55 k (gi h 55 k &&& dd) else h3
  else h1
section M3
variable {x : JX} {h : JH} {c : Nat} {s : Nat → Nat}
theorem j_X9_need {v a w : Int32} (hW : MW h c s) : JF x yX9_need cX9_need 4 (some .boolean) 3 0 0 [.ref 38, .int v, .int a, .int w] h (some (.int (bi (isin v 0 (gi h 38 12 - 1) && isin a 0 (gi h 44 (ix v) - 1) && isin w 1 60)))) (if isin v 0 (gi h 38 12 - 1) && isin a 0 (gi h 44 (ix v) - 1) && isin w 1 60 then si h 56 (64 * ix v + ix a) w else h) := by
  have hW0 := hW
  obtain ⟨hK, hR, hc, hc4, hs⟩ := hW
  refine JM_of [some (.ref 38), some (.int v), some (.int a), some (.int w)] (by decide) (Nat.le_of_ble_eq_true rfl) rfl ?_
  refine J_aload_n (pq := 1) dX9_need_0 rfl rfl (J_iload_n (pq := 2) dX9_need_1 rfl rfl (J_iload_n (pq := 3) dX9_need_2 rfl rfl (J_virtF (pq := 6) dX9_need_3 rfl (j_X9_isAddress hW0) rfl tg_X9_isAddress l_X9_203 vi_X9_isAddress (hK.at rfl) ⟨by decide, rfl⟩ (Nat.le_of_ble_eq_true rfl) (Nat.zero_le _) (Nat.zero_le _) (Nat.le_of_ble_eq_true rfl) (J_if_eq (pq := 9) (tgt := 19) dX9_need_6 rfl rfl (fun c => ?_) (fun c => ?_)))))
  · rw [bi_0] at c
    refine J_iconst (pq := 20) dX9_need_19 rfl c_iconst_0 (J_iret dX9_need_20 rfl (by first | rfl | exact bi_nar _) ?_)
    exact ⟨by rw [c]; rfl, by rw [c]; rfl⟩
  · rw [bi_0, Bool.not_eq_false] at c
    have c1 := c
    refine J_iload_n (pq := 10) dX9_need_9 rfl rfl (J_iconst (pq := 11) dX9_need_10 rfl c_iconst_1 (J_bipush (pq := 13) dX9_need_11 rfl c_bipush_60 (J_statF (pq := 16) dX9_need_13 rfl (j_X9_isIn) rfl tg_X9_isIn l_X9_137 st_X9_isIn (Nat.le_of_ble_eq_true rfl) (Nat.zero_le _) (Nat.zero_le _) (Nat.le_of_ble_eq_true rfl) (J_if_ne (pq := 19) (tgt := 21) dX9_need_16 rfl rfl (fun c => ?_) (fun c => ?_)))))
    · rw [bi_0, Bool.not_eq_false] at c
      have c2 := c
      rw [Bool.and_eq_true, hc, isinN (by omega)] at c1
      obtain ⟨⟨i, hi, rfl⟩, ca⟩ := c1
      rw [ixn (by omega), (hs i hi).1, isinN (by have := hs i hi; omega)] at ca
      obtain ⟨j, hj, rfl⟩ := ca
      have hs3 := (hs i hi).2.2
      have hb : vp_in ((64 : Int32) * nI i + nI j) 256 := vinN (ia64 i j) (by omega) (by omega)
      refine J_aload_n (pq := 22) dX9_need_21 rfl rfl (J_getA (pq := 25) dX9_need_22 rfl f_X9_70 (by decide +kernel) (hK.at rfl) (hR _ _ rfl) (J_bipush (pq := 27) dX9_need_25 rfl c_bipush_64 (J_iload_n (pq := 28) dX9_need_27 rfl rfl (J_imul (pq := 29) dX9_need_28 rfl (J_iload_n (pq := 30) dX9_need_29 rfl rfl (J_iadd (pq := 31) dX9_need_30 rfl (J_iload_n (pq := 32) dX9_need_31 rfl rfl (J_iast (pq := 33) dX9_need_32 rfl (hK.at rfl) (by assumption) (J_iconst (pq := 34) dX9_need_33 rfl c_iconst_1 (J_iret dX9_need_34 rfl (by first | rfl | exact bi_nar _) ?_))))))))))
      have e1 : (isin (nI i) 0 (gi h 38 12 - 1) && isin (nI j) 0 (gi h 44 (ix (nI i)) - 1) && isin w 1 60) = true := by
        rw [Bool.and_eq_true, Bool.and_eq_true, hc, isinN (by omega), ixn (by omega), (hs i hi).1, isinN (by omega)]
        exact ⟨⟨⟨i, hi, rfl⟩, ⟨j, hj, rfl⟩⟩, c2⟩
      refine ⟨by rw [e1]; rfl, ?_⟩
      rw [bif_t e1, ia64, ixn (by omega), ixn (by omega), ixn (by omega)]
    · rw [bi_0] at c
      refine J_iconst (pq := 20) dX9_need_19 rfl c_iconst_0 (J_iret dX9_need_20 rfl (by first | rfl | exact bi_nar _) ?_)
      exact ⟨by rw [c, Bool.and_false]; rfl, by rw [c, Bool.and_false]; rfl⟩
theorem j_X9_bad {v a w : Int32} (hW : MW h c s) : JF x yX9_bad cX9_bad 4 (some .boolean) 2 0 0 [.ref 38, .int v, .int a, .int w] h (some (.int (bi (isin v 0 (gi h 38 12 - 1) && isin a 0 (gi h 44 (ix v) / 8 - 1))))) (if isin v 0 (gi h 38 12 - 1) && isin a 0 (gi h 44 (ix v) / 8 - 1) then si h 59 (8 * ix v + ix a) (w &&& 1) else h) := by
  have hW0 := hW
  obtain ⟨hK, hR, hc, hc4, hs⟩ := hW
  refine JM_of [some (.ref 38), some (.int v), some (.int a), some (.int w)] (by decide) (Nat.le_of_ble_eq_true rfl) rfl ?_
  refine J_aload_n (pq := 1) dX9_bad_0 rfl rfl (J_iload_n (pq := 2) dX9_bad_1 rfl rfl (J_virtF (pq := 5) dX9_bad_2 rfl (j_X9_isChip hK) rfl tg_X9_isChip l_X9_199 vi_X9_isChip (hK.at rfl) ⟨by decide, rfl⟩ (Nat.le_of_ble_eq_true rfl) (Nat.zero_le _) (Nat.zero_le _) (Nat.le_of_ble_eq_true rfl) (J_if_eq (pq := 8) (tgt := 27) dX9_bad_5 rfl rfl (fun c => ?_) (fun c => ?_))))
  · rw [bi_0] at c
    refine J_iconst (pq := 28) dX9_bad_27 rfl c_iconst_0 (J_iret dX9_bad_28 rfl (by first | rfl | exact bi_nar _) ?_)
    exact ⟨by rw [c]; rfl, by rw [c]; rfl⟩
  · rw [bi_0, Bool.not_eq_false] at c
    have c1 := c
    have c1' := c
    rw [hc, isinN (by omega)] at c1
    obtain ⟨i, hi, rfl⟩ := c1
    have hb1 : vp_in (nI i) 4 := vp_in_nI (by omega) (by omega)
    refine J_iload_n (pq := 9) dX9_bad_8 rfl rfl (J_iconst (pq := 10) dX9_bad_9 rfl c_iconst_0 (J_aload_n (pq := 11) dX9_bad_10 rfl rfl (J_getA (pq := 14) dX9_bad_11 rfl f_X9_33 (by decide +kernel) (hK.at rfl) (hR _ _ rfl) (J_iload_n (pq := 15) dX9_bad_14 rfl rfl (J_iald (pq := 16) dX9_bad_15 rfl (hK.at rfl) (by assumption) (J_bipush (pq := 18) dX9_bad_16 rfl c_bipush_8 (J_idiv (pq := 19) dX9_bad_18 rfl (by decide) (J_iconst (pq := 20) dX9_bad_19 rfl c_iconst_1 (J_isub (pq := 21) dX9_bad_20 rfl (J_statF (pq := 24) dX9_bad_21 rfl (j_X9_isIn) rfl tg_X9_isIn l_X9_137 st_X9_isIn (Nat.le_of_ble_eq_true rfl) (Nat.zero_le _) (Nat.zero_le _) (Nat.le_of_ble_eq_true rfl) (J_if_ne (pq := 27) (tgt := 29) dX9_bad_24 rfl rfl (fun c => ?_) (fun c => ?_))))))))))))
    · rw [bi_0, Bool.not_eq_false] at c
      have c2 := c
      rw [ixn (by omega), (hs i hi).1, id8 (by have := hs i hi; omega), isinN (by have := hs i hi; omega)] at c
      obtain ⟨j, hj, rfl⟩ := c
      have hs3 := (hs i hi).2.2
      have hb : vp_in ((8 : Int32) * nI i + nI j) 32 := vinN (ia8 i j) (by omega) (by omega)
      refine J_aload_n (pq := 30) dX9_bad_29 rfl rfl (J_getA (pq := 33) dX9_bad_30 rfl f_X9_79 (by decide +kernel) (hK.at rfl) (hR _ _ rfl) (J_bipush (pq := 35) dX9_bad_33 rfl c_bipush_8 (J_iload_n (pq := 36) dX9_bad_35 rfl rfl (J_imul (pq := 37) dX9_bad_36 rfl (J_iload_n (pq := 38) dX9_bad_37 rfl rfl (J_iadd (pq := 39) dX9_bad_38 rfl (J_iload_n (pq := 40) dX9_bad_39 rfl rfl (J_zast (pq := 41) dX9_bad_40 rfl (hK.at rfl) (by assumption) (J_iconst (pq := 42) dX9_bad_41 rfl c_iconst_1 (J_iret dX9_bad_42 rfl (by first | rfl | exact bi_nar _) ?_))))))))))
      refine ⟨by rw [c1', c2]; rfl, ?_⟩
      rw [c1', c2, ia8, ixn (by omega), ixn (by omega), ixn (by omega)]
      rfl
    · rw [bi_0] at c
      refine J_iconst (pq := 28) dX9_bad_27 rfl c_iconst_0 (J_iret dX9_bad_28 rfl (by first | rfl | exact bi_nar _) ?_)
      exact ⟨by rw [c, Bool.and_false]; rfl, by rw [c, Bool.and_false]; rfl⟩
theorem j_X9_contact {v a w : Int32} (hW : MW h c s) : JF x yX9_contact cX9_contact 4 (some .boolean) 2 0 0 [.ref 38, .int v, .int a, .int w] h (some (.int (bi (isin v 0 (gi h 38 12 - 1) && isin a 0 27)))) (if isin v 0 (gi h 38 12 - 1) && isin a 0 27 then si h 60 (28 * ix v + ix a) (bi (decide (w = 0))) else h) := by
  have hW0 := hW
  obtain ⟨hK, hR, hc, hc4, hs⟩ := hW
  refine JM_of [some (.ref 38), some (.int v), some (.int a), some (.int w)] (by decide) (Nat.le_of_ble_eq_true rfl) rfl ?_
  refine J_aload_n (pq := 1) dX9_contact_0 rfl rfl (J_iload_n (pq := 2) dX9_contact_1 rfl rfl (J_virtF (pq := 5) dX9_contact_2 rfl (j_X9_isChip hK) rfl tg_X9_isChip l_X9_199 vi_X9_isChip (hK.at rfl) ⟨by decide, rfl⟩ (Nat.le_of_ble_eq_true rfl) (Nat.zero_le _) (Nat.zero_le _) (Nat.le_of_ble_eq_true rfl) (J_if_eq (pq := 8) (tgt := 18) dX9_contact_5 rfl rfl (fun c => ?_) (fun c => ?_))))
  · rw [bi_0] at c
    refine J_iconst (pq := 19) dX9_contact_18 rfl c_iconst_0 (J_iret dX9_contact_19 rfl (by first | rfl | exact bi_nar _) ?_)
    exact ⟨by rw [c]; rfl, by rw [c]; rfl⟩
  · rw [bi_0, Bool.not_eq_false] at c
    have c1 := c
    have c1' := c
    rw [hc, isinN (by omega)] at c1
    obtain ⟨i, hi, rfl⟩ := c1
    refine J_iload_n (pq := 9) dX9_contact_8 rfl rfl (J_iconst (pq := 10) dX9_contact_9 rfl c_iconst_0 (J_bipush (pq := 12) dX9_contact_10 rfl c_bipush_27 (J_statF (pq := 15) dX9_contact_12 rfl (j_X9_isIn) rfl tg_X9_isIn l_X9_137 st_X9_isIn (Nat.le_of_ble_eq_true rfl) (Nat.zero_le _) (Nat.zero_le _) (Nat.le_of_ble_eq_true rfl) (J_if_ne (pq := 18) (tgt := 20) dX9_contact_15 rfl rfl (fun c => ?_) (fun c => ?_)))))
    · rw [bi_0, Bool.not_eq_false] at c
      have c2 := c
      have c3 : isin a 0 (nI 28 - 1) = true := c
      rw [isinN (by omega)] at c3
      obtain ⟨j, hj, rfl⟩ := c3
      have hb : vp_in ((28 : Int32) * nI i + nI j) 112 := vinN (ia28 i j) (by omega) (by omega)
      have hx : 28 * ix (nI i) + ix (nI j) = ix ((28 : Int32) * nI i + nI j) := by rw [ia28, ixn (by omega), ixn (by omega), ixn (by omega)]
      refine J_aload_n (pq := 21) dX9_contact_20 rfl rfl (J_getA (pq := 24) dX9_contact_21 rfl f_X9_82 (by decide +kernel) (hK.at rfl) (hR _ _ rfl) (J_bipush (pq := 26) dX9_contact_24 rfl c_bipush_28 (J_iload_n (pq := 27) dX9_contact_26 rfl rfl (J_imul (pq := 28) dX9_contact_27 rfl (J_iload_n (pq := 29) dX9_contact_28 rfl rfl (J_iadd (pq := 30) dX9_contact_29 rfl (J_iload_n (pq := 31) dX9_contact_30 rfl rfl (J_if_ne (pq := 34) (tgt := 38) dX9_contact_31 rfl rfl (fun c => ?_) (fun c => ?_)))))))))
      · refine J_iconst (pq := 39) dX9_contact_38 rfl c_iconst_0 (J_zast (pq := 40) dX9_contact_39 rfl (hK.at rfl) (by assumption) (J_iconst (pq := 41) dX9_contact_40 rfl c_iconst_1 (J_iret dX9_contact_41 rfl (by first | rfl | exact bi_nar _) ?_)))
        refine ⟨by rw [c1', c2]; rfl, ?_⟩
        rw [c1', c2, hx]
        simp [c, bi]
      · refine J_iconst (pq := 35) dX9_contact_34 rfl c_iconst_1 (J_goto (tgt := 39) dX9_contact_35 rfl (J_zast (pq := 40) dX9_contact_39 rfl (hK.at rfl) (by assumption) (J_iconst (pq := 41) dX9_contact_40 rfl c_iconst_1 (J_iret dX9_contact_41 rfl (by first | rfl | exact bi_nar _) ?_))))
        refine ⟨by rw [c1', c2]; rfl, ?_⟩
        rw [c1', c2, hx]
        simp [c, bi]
    · rw [bi_0] at c
      refine J_iconst (pq := 19) dX9_contact_18 rfl c_iconst_0 (J_iret dX9_contact_19 rfl (by first | rfl | exact bi_nar _) ?_)
      exact ⟨by rw [c, Bool.and_false]; rfl, by rw [c, Bool.and_false]; rfl⟩
theorem j_X9_fault {v : Int32} (hK : Kin h) : JF x yX9_fault cX9_fault 2 (some .int) 0 0 0 [.ref 38, .int v] h (some (.int (if v = 0 then gi h 38 3 else if v = 1 then gi h 38 4 else -1))) h := by
  refine JM_of [some (.ref 38), some (.int v)] (by decide) (Nat.le_of_ble_eq_true rfl) rfl ?_
  refine J_iload_n (pq := 1) dX9_fault_0 rfl rfl (J_if_ne (pq := 4) (tgt := 11) dX9_fault_1 rfl rfl (fun c => ?_) (fun c => ?_))
  · refine J_iload_n (pq := 12) dX9_fault_11 rfl rfl (J_iconst (pq := 13) dX9_fault_12 rfl c_iconst_1 (J_icmp_ne (pq := 16) (tgt := 23) dX9_fault_13 rfl rfl (fun c => ?_) (fun c => ?_)))
    · refine J_iconst (pq := 24) dX9_fault_23 rfl c_iconst_m1 (J_iret dX9_fault_24 rfl rfl ?_)
      exact ⟨by simp_all, rfl⟩
    · refine J_aload_n (pq := 17) dX9_fault_16 rfl rfl (J_getI (pq := 20) dX9_fault_17 rfl f_X9_20 jsI (hK.at rfl) (J_goto (tgt := 24) dX9_fault_20 rfl (J_iret dX9_fault_24 rfl rfl ?_)))
      exact ⟨by simp_all, rfl⟩
  · refine J_aload_n (pq := 5) dX9_fault_4 rfl rfl (J_getI (pq := 8) dX9_fault_5 rfl f_X9_16 jsI (hK.at rfl) (J_goto (tgt := 24) dX9_fault_8 rfl (J_iret dX9_fault_24 rfl rfl ?_)))
    exact ⟨by simp_all, rfl⟩
theorem j_X9_about {v : Int32} (hK : Kin h) (hb : (gl h 38 5).toInt ≤ 2147483647) : JF x yX9_about cX9_about 2 (some .int) 0 0 0 [.ref 38, .int v] h (some (.int (if v = 0 then gi h 38 12 else if v = 1 then gi h 38 2 else if v = 2 then (gl h 38 5).toInt32 else -1))) h := by
  refine JM_of [some (.ref 38), some (.int v)] (by decide) (Nat.le_of_ble_eq_true rfl) rfl ?_
  have hcmp : lg_cmp (gl h 38 5) 2147483647 ≤ 0 := by
    unfold lg_cmp
    have : ¬ (2147483647 : Int64) < gl h 38 5 := by
      rw [Int64.lt_iff_toInt_lt]; simp; omega
    simp [this]
    split <;> decide
  refine J_iload_n (pq := 1) dX9_about_0 rfl rfl (J_if_ne (pq := 4) (tgt := 11) dX9_about_1 rfl rfl (fun c => ?_) (fun c => ?_))
  · refine J_iload_n (pq := 12) dX9_about_11 rfl rfl (J_iconst (pq := 13) dX9_about_12 rfl c_iconst_1 (J_icmp_ne (pq := 16) (tgt := 23) dX9_about_13 rfl rfl (fun c => ?_) (fun c => ?_)))
    · refine J_iload_n (pq := 24) dX9_about_23 rfl rfl (J_iconst (pq := 25) dX9_about_24 rfl c_iconst_2 (J_icmp_ne (pq := 28) (tgt := 52) dX9_about_25 rfl rfl (fun c => ?_) (fun c => ?_)))
      · refine J_iconst (pq := 53) dX9_about_52 rfl c_iconst_m1 (J_iret dX9_about_53 rfl rfl ?_)
        exact ⟨by simp_all, rfl⟩
      · refine J_aload_n (pq := 29) dX9_about_28 rfl rfl (J_getL (pq := 32) dX9_about_29 rfl f_X9_179 jsJ (hK.at rfl) (J_ldc2 (pq := 35) dX9_about_32 rfl k_X9_216 (J_lcmp (pq := 36) dX9_about_35 rfl (J_if_le (pq := 39) (tgt := 44) dX9_about_36 rfl rfl (fun c => ?_) (fun c => ?_)))))
        · refine J_aload_n (pq := 45) dX9_about_44 rfl rfl (J_getL (pq := 48) dX9_about_45 rfl f_X9_179 jsJ (hK.at rfl) (J_l2i (pq := 49) dX9_about_48 rfl (J_goto (tgt := 53) dX9_about_49 rfl (J_iret dX9_about_53 rfl rfl ?_))))
          exact ⟨by simp_all, rfl⟩
        · exact absurd hcmp c
    · refine J_aload_n (pq := 17) dX9_about_16 rfl rfl (J_getI (pq := 20) dX9_about_17 rfl f_X9_130 jsI (hK.at rfl) (J_goto (tgt := 53) dX9_about_20 rfl (J_iret dX9_about_53 rfl rfl ?_)))
      exact ⟨by simp_all, rfl⟩
  · refine J_aload_n (pq := 5) dX9_about_4 rfl rfl (J_getI (pq := 8) dX9_about_5 rfl f_X9_196 jsI (hK.at rfl) (J_goto (tgt := 53) dX9_about_8 rfl (J_iret dX9_about_53 rfl rfl ?_)))
    exact ⟨by simp_all, rfl⟩
theorem j_X9_isPart {v w : Int32} : JF x yX9_isPart cX9_isPart 2 (some .boolean) 1 0 0 [.int v, .int w] h (some (.int (bi (isin v 0 255 && isin w 1 8)))) h := by
  refine JM_of [some (.int v), some (.int w)] (by decide) (Nat.le_of_ble_eq_true rfl) rfl ?_
  refine J_iload_n (pq := 1) dX9_isPart_0 rfl rfl (J_iconst (pq := 2) dX9_isPart_1 rfl c_iconst_0 (J_sipush (pq := 5) dX9_isPart_2 rfl c_sipush_255 (J_statF (pq := 8) dX9_isPart_5 rfl (j_X9_isIn) rfl tg_X9_isIn l_X9_137 st_X9_isIn (Nat.le_of_ble_eq_true rfl) (Nat.zero_le _) (Nat.zero_le _) (Nat.le_of_ble_eq_true rfl) (J_if_eq (pq := 11) (tgt := 25) dX9_isPart_8 rfl rfl (fun c => ?_) (fun c => ?_)))))
  · rw [bi_0] at c
    refine J_iconst (pq := 26) dX9_isPart_25 rfl c_iconst_0 (J_iret dX9_isPart_26 rfl (by first | rfl | exact bi_nar _) ?_)
    exact ⟨by rw [c]; rfl, rfl⟩
  · rw [bi_0, Bool.not_eq_false] at c
    have c1 := c
    refine J_iload_n (pq := 12) dX9_isPart_11 rfl rfl (J_iconst (pq := 13) dX9_isPart_12 rfl c_iconst_1 (J_bipush (pq := 15) dX9_isPart_13 rfl c_bipush_8 (J_statF (pq := 18) dX9_isPart_15 rfl (j_X9_isIn) rfl tg_X9_isIn l_X9_137 st_X9_isIn (Nat.le_of_ble_eq_true rfl) (Nat.zero_le _) (Nat.zero_le _) (Nat.le_of_ble_eq_true rfl) (J_if_eq (pq := 21) (tgt := 25) dX9_isPart_18 rfl rfl (fun c => ?_) (fun c => ?_)))))
    · rw [bi_0] at c
      refine J_iconst (pq := 26) dX9_isPart_25 rfl c_iconst_0 (J_iret dX9_isPart_26 rfl (by first | rfl | exact bi_nar _) ?_)
      exact ⟨by rw [c, Bool.and_false]; rfl, rfl⟩
    · rw [bi_0, Bool.not_eq_false] at c
      refine J_iconst (pq := 22) dX9_isPart_21 rfl c_iconst_1 (J_goto (tgt := 26) dX9_isPart_22 rfl (J_iret dX9_isPart_26 rfl (by first | rfl | exact bi_nar _) ?_))
      exact ⟨by rw [c, c1]; rfl, rfl⟩
theorem j_X9_last {i f w : Nat} (hW : MW h c s) (hi : i < c) (hf : f ≤ 255) (hw : 1 ≤ w ∧ w ≤ 8) : JF x yX9_last cX9_last 6 (some .int) 1 0 0 [.ref 38, .int (nI i), .int (nI f), .int (nI w)] h (some (.int (nI (min (8 * goodc (mBad h i) (s i)) ((255 - f) / w + 1))))) h := by
  have hW0 := hW
  obtain ⟨hK, hR, hc, hc4, hs⟩ := hW
  have hgl := goodc_le (mBad h i) (s i)
  have hs3 := (hs i hi).2.2
  refine JM_of [some (.ref 38), some (.int (nI i)), some (.int (nI f)), some (.int (nI w)), none, none] (by decide) (Nat.le_of_ble_eq_true rfl) rfl ?_
  have hw0 : ¬ nI w = 0 := by rw [show (0 : Int32) = nI 0 from rfl, nI_eq (by omega) (by omega)]; omega
  have hdl : (255 - f) / w ≤ 255 := Nat.le_trans (Nat.div_le_self _ _) (by omega)
  have hq : ((255 : Int32) - nI f) / nI w + 1 = nI ((255 - f) / w + 1) := by
    rw [show (255 : Int32) = nI 255 from rfl, pk_sub hf, pk_div (by omega) (by omega) (by omega), nI_1]
  refine J_aload_n (pq := 1) dX9_last_0 rfl rfl (J_iload_n (pq := 2) dX9_last_1 rfl rfl (J_virtF (pq := 5) dX9_last_2 rfl (j_X9_logicals hW0 hi) rfl tg_X9_logicals l_X9_207 vi_X9_logicals (hK.at rfl) ⟨by decide, rfl⟩ (Nat.le_of_ble_eq_true rfl) (Nat.zero_le _) (Nat.zero_le _) (Nat.le_of_ble_eq_true rfl) (J_istore (pq := 7) dX9_last_5 rfl (Nat.le_of_ble_eq_true rfl) (Nat.le_of_ble_eq_true rfl) rfl (J_sipush (pq := 10) dX9_last_7 rfl c_sipush_255 (J_iload_n (pq := 11) dX9_last_10 rfl rfl (J_isub (pq := 12) dX9_last_11 rfl (J_iload_n (pq := 13) dX9_last_12 rfl rfl (J_idiv (pq := 14) dX9_last_13 rfl hw0 (J_iconst (pq := 15) dX9_last_14 rfl c_iconst_1 (J_iadd (pq := 16) dX9_last_15 rfl (J_istore (pq := 18) dX9_last_16 rfl (Nat.le_of_ble_eq_true rfl) (Nat.le_of_ble_eq_true rfl) rfl (J_iload (pq := 20) dX9_last_18 rfl rfl (J_iload (pq := 22) dX9_last_20 rfl rfl (J_icmp_ge (pq := 25) (tgt := 30) dX9_last_22 rfl rfl (fun c => ?_) (fun c => ?_)))))))))))))))
  · rw [hq, nI_leI (by omega) (by omega)] at c
    refine J_iload (pq := 32) dX9_last_30 rfl rfl (J_iret dX9_last_32 rfl rfl ?_)
    refine ⟨?_, rfl⟩
    rw [hq, Nat.min_eq_right c]
  · rw [hq, nI_leI (by omega) (by omega)] at c
    refine J_iload (pq := 27) dX9_last_25 rfl rfl (J_goto (tgt := 32) dX9_last_27 rfl (J_iret dX9_last_32 rfl rfl ?_))
    refine ⟨?_, rfl⟩
    rw [Nat.min_eq_left (by omega)]
theorem j_X9_pulse {i a : Nat} {dd w : Int32} (hK : Kin h) (hR : MR h) (hi : i < 4) (ha : a < 64) : JF x yX9_pulse cX9_pulse 6 none 0 0 0 [.ref 38, .int (nI i), .int (nI a), .int dd, .int w] h none (mPulse h i a dd w) := by
  refine JM_of [some (.ref 38), some (.int (nI i)), some (.int (nI a)), some (.int dd), some (.int w), none] (by decide) (Nat.le_of_ble_eq_true rfl) rfl ?_
  have hb1 : vp_in (nI i) 4 := vp_in_nI (by omega) (by omega)
  have hx1 : ix (nI i) = i := ixn (by omega)
  have hb : vp_in ((64 : Int32) * nI i + nI a) 256 := vinN (ia64 i a) (by omega) (by omega)
  have hx : ix ((64 : Int32) * nI i + nI a) = 64 * i + a := by rw [ia64, ixn (by omega)]
  refine J_aload_n (pq := 1) dX9_pulse_0 rfl rfl (J_getA (pq := 4) dX9_pulse_1 rfl f_X9_60 (by decide +kernel) (hK.at rfl) (hR _ _ rfl) (J_iload_n (pq := 5) dX9_pulse_4 rfl rfl (J_dup2 (pq := 6) dX9_pulse_5 rfl rfl rfl (J_lald (pq := 7) dX9_pulse_6 rfl (hK.at rfl) (by assumption) (J_lconst (v := 1) (pq := 8) dX9_pulse_7 rfl rfl (J_ladd (pq := 9) dX9_pulse_8 rfl (J_last (pq := 10) dX9_pulse_9 rfl (hK.at rfl) (by assumption) (J_iload (pq := 12) dX9_pulse_10 rfl rfl (J_aload_n (pq := 13) dX9_pulse_12 rfl rfl (J_getA (pq := 16) dX9_pulse_13 rfl f_X9_42 (by decide +kernel) (hK.at rfl) (hR _ _ rfl) (J_iload_n (pq := 17) dX9_pulse_16 rfl rfl (J_iald (pq := 18) dX9_pulse_17 rfl (hK.at rfl) (by assumption) (J_icmp_ge (pq := 21) (tgt := 22) dX9_pulse_18 rfl rfl (fun c => ?_) (fun c => ?_))))))))))))))
  · simp only [hx1, gi_sl] at c
    have c1 := c
    refine J_bipush (pq := 24) dX9_pulse_22 rfl c_bipush_64 (J_iload_n (pq := 25) dX9_pulse_24 rfl rfl (J_imul (pq := 26) dX9_pulse_25 rfl (J_iload_n (pq := 27) dX9_pulse_26 rfl rfl (J_iadd (pq := 28) dX9_pulse_27 rfl (J_istore (pq := 30) dX9_pulse_28 rfl (Nat.le_of_ble_eq_true rfl) (Nat.le_of_ble_eq_true rfl) rfl (J_aload_n (pq := 31) dX9_pulse_30 rfl rfl (J_getA (pq := 34) dX9_pulse_31 rfl f_X9_73 (by decide +kernel) (hK.at rfl) (hR _ _ rfl) (J_iload (pq := 36) dX9_pulse_34 rfl rfl (J_aload_n (pq := 37) dX9_pulse_36 rfl rfl (J_getA (pq := 40) dX9_pulse_37 rfl f_X9_76 (by decide +kernel) (hK.at rfl) (hR _ _ rfl) (J_iload (pq := 42) dX9_pulse_40 rfl rfl (J_iald (pq := 43) dX9_pulse_42 rfl (hK.at rfl) (by assumption) (J_iload_n (pq := 44) dX9_pulse_43 rfl rfl (J_icmp_ne (pq := 47) (tgt := 59) dX9_pulse_44 rfl rfl (fun c => ?_) (fun c => ?_)))))))))))))))
    · simp only [hx, gi_sl] at c
      have c2 := c
      refine J_iconst (pq := 60) dX9_pulse_59 rfl c_iconst_1 (J_iast (pq := 61) dX9_pulse_60 rfl (hK.at rfl) (by assumption) (J_aload_n (pq := 62) dX9_pulse_61 rfl rfl (J_getA (pq := 65) dX9_pulse_62 rfl f_X9_76 (by decide +kernel) (hK.at rfl) (hR _ _ rfl) (J_iload (pq := 67) dX9_pulse_65 rfl rfl (J_iload_n (pq := 68) dX9_pulse_67 rfl rfl (J_iast (pq := 69) dX9_pulse_68 rfl (hK.at rfl) (by assumption) (J_aload_n (pq := 70) dX9_pulse_69 rfl rfl (J_getA (pq := 73) dX9_pulse_70 rfl f_X9_73 (by decide +kernel) (hK.at rfl) (hR _ _ rfl) (J_iload (pq := 75) dX9_pulse_73 rfl rfl (J_iald (pq := 76) dX9_pulse_75 rfl (hK.at rfl) (by assumption) (J_aload_n (pq := 77) dX9_pulse_76 rfl rfl (J_getA (pq := 80) dX9_pulse_77 rfl f_X9_70 (by decide +kernel) (hK.at rfl) (hR _ _ rfl) (J_iload (pq := 82) dX9_pulse_80 rfl rfl (J_iald (pq := 83) dX9_pulse_82 rfl (hK.at rfl) (by assumption) (J_icmp_lt (pq := 86) (tgt := 97) dX9_pulse_83 rfl rfl (fun c => ?_) (fun c => ?_))))))))))))))))
      · simp only [hx, gi_sl, gi_si] at c
        have c3 := c
        simp at c3
        refine J_aload_n (pq := 98) dX9_pulse_97 rfl rfl (J_getA (pq := 101) dX9_pulse_98 rfl f_X9_73 (by decide +kernel) (hK.at rfl) (hR _ _ rfl) (J_iload (pq := 103) dX9_pulse_101 rfl rfl (J_iald (pq := 104) dX9_pulse_103 rfl (hK.at rfl) (by assumption) (J_aload_n (pq := 105) dX9_pulse_104 rfl rfl (J_getA (pq := 108) dX9_pulse_105 rfl f_X9_70 (by decide +kernel) (hK.at rfl) (hR _ _ rfl) (J_iload (pq := 110) dX9_pulse_108 rfl rfl (J_iald (pq := 111) dX9_pulse_110 rfl (hK.at rfl) (by assumption) (J_aload_n (pq := 112) dX9_pulse_111 rfl rfl (J_getA (pq := 115) dX9_pulse_112 rfl f_X9_51 (by decide +kernel) (hK.at rfl) (hR _ _ rfl) (J_iload_n (pq := 116) dX9_pulse_115 rfl rfl (J_iald (pq := 117) dX9_pulse_116 rfl (hK.at rfl) (by assumption) (J_iadd (pq := 118) dX9_pulse_117 rfl (J_icmp_lt (pq := 121) (tgt := 132) dX9_pulse_118 rfl rfl (fun c => ?_) (fun c => ?_))))))))))))))
        · simp only [hx, hx1, gi_sl, gi_si] at c
          have c4 := c
          simp at c4
          refine J_vret dX9_pulse_132 rfl ?_
          refine ⟨rfl, ?_⟩
          simp [mPulse, hx, hx1, c1, c2, i_nle.mpr c3, i_nle.mpr c4]
        · simp only [hx, hx1, gi_sl, gi_si] at c
          have c4 := c
          simp at c4
          refine J_aload_n (pq := 122) dX9_pulse_121 rfl rfl (J_getA (pq := 125) dX9_pulse_122 rfl f_X9_67 (by decide +kernel) (hK.at rfl) (hR _ _ rfl) (J_iload (pq := 127) dX9_pulse_125 rfl rfl (J_dup2 (pq := 128) dX9_pulse_127 rfl rfl rfl (J_iald (pq := 129) dX9_pulse_128 rfl (hK.at rfl) (by assumption) (J_iload_n (pq := 130) dX9_pulse_129 rfl rfl (J_iand (pq := 131) dX9_pulse_130 rfl (J_iast (pq := 132) dX9_pulse_131 rfl (hK.at rfl) (by assumption) (J_vret dX9_pulse_132 rfl ?_))))))))
          refine ⟨rfl, ?_⟩
          simp [mPulse, hx, hx1, c1, c2, i_nle.mpr c3, c4, gi_si, gi_sl]
      · simp only [hx, gi_sl, gi_si] at c
        have c3 := c
        simp at c3
        refine J_aload_n (pq := 87) dX9_pulse_86 rfl rfl (J_getA (pq := 90) dX9_pulse_87 rfl f_X9_64 (by decide +kernel) (hK.at rfl) (hR _ _ rfl) (J_iload (pq := 92) dX9_pulse_90 rfl rfl (J_dup2 (pq := 93) dX9_pulse_92 rfl rfl rfl (J_iald (pq := 94) dX9_pulse_93 rfl (hK.at rfl) (by assumption) (J_iload_n (pq := 95) dX9_pulse_94 rfl rfl (J_iand (pq := 96) dX9_pulse_95 rfl (J_iast (pq := 97) dX9_pulse_96 rfl (hK.at rfl) (by assumption) (J_aload_n (pq := 98) dX9_pulse_97 rfl rfl (J_getA (pq := 101) dX9_pulse_98 rfl f_X9_73 (by decide +kernel) (hK.at rfl) (hR _ _ rfl) (J_iload (pq := 103) dX9_pulse_101 rfl rfl (J_iald (pq := 104) dX9_pulse_103 rfl (hK.at rfl) (by assumption) (J_aload_n (pq := 105) dX9_pulse_104 rfl rfl (J_getA (pq := 108) dX9_pulse_105 rfl f_X9_70 (by decide +kernel) (hK.at rfl) (hR _ _ rfl) (J_iload (pq := 110) dX9_pulse_108 rfl rfl (J_iald (pq := 111) dX9_pulse_110 rfl (hK.at rfl) (by assumption) (J_aload_n (pq := 112) dX9_pulse_111 rfl rfl (J_getA (pq := 115) dX9_pulse_112 rfl f_X9_51 (by decide +kernel) (hK.at rfl) (hR _ _ rfl) (J_iload_n (pq := 116) dX9_pulse_115 rfl rfl (J_iald (pq := 117) dX9_pulse_116 rfl (hK.at rfl) (by assumption) (J_iadd (pq := 118) dX9_pulse_117 rfl (J_icmp_lt (pq := 121) (tgt := 132) dX9_pulse_118 rfl rfl (fun c => ?_) (fun c => ?_))))))))))))))))))))))
        · simp only [hx, hx1, gi_sl, gi_si] at c
          have c4 := c
          simp at c4
          refine J_vret dX9_pulse_132 rfl ?_
          refine ⟨rfl, ?_⟩
          simp [mPulse, hx, hx1, c1, c2, c3, i_nle.mpr c4, gi_si, gi_sl]
        · simp only [hx, hx1, gi_sl, gi_si] at c
          have c4 := c
          simp at c4
          refine J_aload_n (pq := 122) dX9_pulse_121 rfl rfl (J_getA (pq := 125) dX9_pulse_122 rfl f_X9_67 (by decide +kernel) (hK.at rfl) (hR _ _ rfl) (J_iload (pq := 127) dX9_pulse_125 rfl rfl (J_dup2 (pq := 128) dX9_pulse_127 rfl rfl rfl (J_iald (pq := 129) dX9_pulse_128 rfl (hK.at rfl) (by assumption) (J_iload_n (pq := 130) dX9_pulse_129 rfl rfl (J_iand (pq := 131) dX9_pulse_130 rfl (J_iast (pq := 132) dX9_pulse_131 rfl (hK.at rfl) (by assumption) (J_vret dX9_pulse_132 rfl ?_))))))))
          refine ⟨rfl, ?_⟩
          simp [mPulse, hx, hx1, c1, c2, c3, c4, gi_si, gi_sl]
    · simp only [hx, gi_sl] at c
      have c2 := c
      refine J_aload_n (pq := 48) dX9_pulse_47 rfl rfl (J_getA (pq := 51) dX9_pulse_48 rfl f_X9_73 (by decide +kernel) (hK.at rfl) (hR _ _ rfl) (J_iload (pq := 53) dX9_pulse_51 rfl rfl (J_iald (pq := 54) dX9_pulse_53 rfl (hK.at rfl) (by assumption) (J_iconst (pq := 55) dX9_pulse_54 rfl c_iconst_1 (J_iadd (pq := 56) dX9_pulse_55 rfl (J_goto (tgt := 60) dX9_pulse_56 rfl (J_iast (pq := 61) dX9_pulse_60 rfl (hK.at rfl) (by assumption) (J_aload_n (pq := 62) dX9_pulse_61 rfl rfl (J_getA (pq := 65) dX9_pulse_62 rfl f_X9_76 (by decide +kernel) (hK.at rfl) (hR _ _ rfl) (J_iload (pq := 67) dX9_pulse_65 rfl rfl (J_iload_n (pq := 68) dX9_pulse_67 rfl rfl (J_iast (pq := 69) dX9_pulse_68 rfl (hK.at rfl) (by assumption) (J_aload_n (pq := 70) dX9_pulse_69 rfl rfl (J_getA (pq := 73) dX9_pulse_70 rfl f_X9_73 (by decide +kernel) (hK.at rfl) (hR _ _ rfl) (J_iload (pq := 75) dX9_pulse_73 rfl rfl (J_iald (pq := 76) dX9_pulse_75 rfl (hK.at rfl) (by assumption) (J_aload_n (pq := 77) dX9_pulse_76 rfl rfl (J_getA (pq := 80) dX9_pulse_77 rfl f_X9_70 (by decide +kernel) (hK.at rfl) (hR _ _ rfl) (J_iload (pq := 82) dX9_pulse_80 rfl rfl (J_iald (pq := 83) dX9_pulse_82 rfl (hK.at rfl) (by assumption) (J_icmp_lt (pq := 86) (tgt := 97) dX9_pulse_83 rfl rfl (fun c => ?_) (fun c => ?_))))))))))))))))))))))
      · simp only [hx, gi_sl, gi_si] at c
        have c3 := c
        simp at c3
        refine J_aload_n (pq := 98) dX9_pulse_97 rfl rfl (J_getA (pq := 101) dX9_pulse_98 rfl f_X9_73 (by decide +kernel) (hK.at rfl) (hR _ _ rfl) (J_iload (pq := 103) dX9_pulse_101 rfl rfl (J_iald (pq := 104) dX9_pulse_103 rfl (hK.at rfl) (by assumption) (J_aload_n (pq := 105) dX9_pulse_104 rfl rfl (J_getA (pq := 108) dX9_pulse_105 rfl f_X9_70 (by decide +kernel) (hK.at rfl) (hR _ _ rfl) (J_iload (pq := 110) dX9_pulse_108 rfl rfl (J_iald (pq := 111) dX9_pulse_110 rfl (hK.at rfl) (by assumption) (J_aload_n (pq := 112) dX9_pulse_111 rfl rfl (J_getA (pq := 115) dX9_pulse_112 rfl f_X9_51 (by decide +kernel) (hK.at rfl) (hR _ _ rfl) (J_iload_n (pq := 116) dX9_pulse_115 rfl rfl (J_iald (pq := 117) dX9_pulse_116 rfl (hK.at rfl) (by assumption) (J_iadd (pq := 118) dX9_pulse_117 rfl (J_icmp_lt (pq := 121) (tgt := 132) dX9_pulse_118 rfl rfl (fun c => ?_) (fun c => ?_))))))))))))))
        · simp only [hx, hx1, gi_sl, gi_si] at c
          have c4 := c
          simp at c4
          refine J_vret dX9_pulse_132 rfl ?_
          refine ⟨rfl, ?_⟩
          simp [mPulse, hx, hx1, c1, c2, i_nle.mpr c3, i_nle.mpr c4, gi_si, gi_sl]
        · simp only [hx, hx1, gi_sl, gi_si] at c
          have c4 := c
          simp at c4
          refine J_aload_n (pq := 122) dX9_pulse_121 rfl rfl (J_getA (pq := 125) dX9_pulse_122 rfl f_X9_67 (by decide +kernel) (hK.at rfl) (hR _ _ rfl) (J_iload (pq := 127) dX9_pulse_125 rfl rfl (J_dup2 (pq := 128) dX9_pulse_127 rfl rfl rfl (J_iald (pq := 129) dX9_pulse_128 rfl (hK.at rfl) (by assumption) (J_iload_n (pq := 130) dX9_pulse_129 rfl rfl (J_iand (pq := 131) dX9_pulse_130 rfl (J_iast (pq := 132) dX9_pulse_131 rfl (hK.at rfl) (by assumption) (J_vret dX9_pulse_132 rfl ?_))))))))
          refine ⟨rfl, ?_⟩
          simp [mPulse, hx, hx1, c1, c2, i_nle.mpr c3, c4, gi_si, gi_sl]
      · simp only [hx, gi_sl, gi_si] at c
        have c3 := c
        simp at c3
        refine J_aload_n (pq := 87) dX9_pulse_86 rfl rfl (J_getA (pq := 90) dX9_pulse_87 rfl f_X9_64 (by decide +kernel) (hK.at rfl) (hR _ _ rfl) (J_iload (pq := 92) dX9_pulse_90 rfl rfl (J_dup2 (pq := 93) dX9_pulse_92 rfl rfl rfl (J_iald (pq := 94) dX9_pulse_93 rfl (hK.at rfl) (by assumption) (J_iload_n (pq := 95) dX9_pulse_94 rfl rfl (J_iand (pq := 96) dX9_pulse_95 rfl (J_iast (pq := 97) dX9_pulse_96 rfl (hK.at rfl) (by assumption) (J_aload_n (pq := 98) dX9_pulse_97 rfl rfl (J_getA (pq := 101) dX9_pulse_98 rfl f_X9_73 (by decide +kernel) (hK.at rfl) (hR _ _ rfl) (J_iload (pq := 103) dX9_pulse_101 rfl rfl (J_iald (pq := 104) dX9_pulse_103 rfl (hK.at rfl) (by assumption) (J_aload_n (pq := 105) dX9_pulse_104 rfl rfl (J_getA (pq := 108) dX9_pulse_105 rfl f_X9_70 (by decide +kernel) (hK.at rfl) (hR _ _ rfl) (J_iload (pq := 110) dX9_pulse_108 rfl rfl (J_iald (pq := 111) dX9_pulse_110 rfl (hK.at rfl) (by assumption) (J_aload_n (pq := 112) dX9_pulse_111 rfl rfl (J_getA (pq := 115) dX9_pulse_112 rfl f_X9_51 (by decide +kernel) (hK.at rfl) (hR _ _ rfl) (J_iload_n (pq := 116) dX9_pulse_115 rfl rfl (J_iald (pq := 117) dX9_pulse_116 rfl (hK.at rfl) (by assumption) (J_iadd (pq := 118) dX9_pulse_117 rfl (J_icmp_lt (pq := 121) (tgt := 132) dX9_pulse_118 rfl rfl (fun c => ?_) (fun c => ?_))))))))))))))))))))))
        · simp only [hx, hx1, gi_sl, gi_si] at c
          have c4 := c
          simp at c4
          refine J_vret dX9_pulse_132 rfl ?_
          refine ⟨rfl, ?_⟩
          simp [mPulse, hx, hx1, c1, c2, c3, i_nle.mpr c4, gi_si, gi_sl]
        · simp only [hx, hx1, gi_sl, gi_si] at c
          have c4 := c
          simp at c4
          refine J_aload_n (pq := 122) dX9_pulse_121 rfl rfl (J_getA (pq := 125) dX9_pulse_122 rfl f_X9_67 (by decide +kernel) (hK.at rfl) (hR _ _ rfl) (J_iload (pq := 127) dX9_pulse_125 rfl rfl (J_dup2 (pq := 128) dX9_pulse_127 rfl rfl rfl (J_iald (pq := 129) dX9_pulse_128 rfl (hK.at rfl) (by assumption) (J_iload_n (pq := 130) dX9_pulse_129 rfl rfl (J_iand (pq := 131) dX9_pulse_130 rfl (J_iast (pq := 132) dX9_pulse_131 rfl (hK.at rfl) (by assumption) (J_vret dX9_pulse_132 rfl ?_))))))))
          refine ⟨rfl, ?_⟩
          simp [mPulse, hx, hx1, c1, c2, c3, c4, gi_si, gi_sl]
  · simp only [hx1, gi_sl] at c
    refine J_vret dX9_pulse_21 rfl ?_
    refine ⟨rfl, ?_⟩
    simp [mPulse, hx1, c]
end M3
