-- what a recipe's walk tells; whether it fits a chip; why a burning isn't begun
def mWalk (tc : Cond) (e : Nat) (w : Int32) : Int32 := if w = 0 then nI e else if w = 1 then nI (tq tc 0) - 1 else if w = 2 then nI (min 1000000 (pP tc)) else if w = 3 then nI (min 1000000 (pW tc)) else -1
def mFit (h : JH) (i : Nat) (tc : Cond) : Bool := decide (nI (tq tc 0) - 1 ≤ gi h 48 i) && decide (nI (cap (pP tc)) ≤ gi h 49 i) && decide (nI (cap (pW tc)) ≤ 5000)
def mRch (h : JH) (i s f w : Nat) : Nat := min (8 * goodc (mBad h i) s) ((255 - f) / w + 1)
/-- a byte need not go back -/
def mFwd (h : JH) (i s f w k : Nat) : Bool := decide (gi h 39 (f + w * k) &&& (gi h 54 (64 * i + mAdr h i s k) ^^^ (-1)) = 0) && decide (gi h 39 (f + w * k) &&& (gi h 55 (64 * i + mAdr h i s k) ^^^ (-1)) = 0)
def mWhy (h : JH) (i s : Nat) (tc : Cond) (id : Int32) (f w : Nat) : Int32 := if ¬ lkf (mLack h i) 28 0 < 0 then 1 else if ¬ gi h 45 i = id then 2 else if mFit h i tc = false then 3 else if (∀ k, k < mRch h i s f w → mFwd h i s f w k = true) then 0 else 4
theorem cap_1M (v : Nat) : (cap v ≤ 1000000 → nI (cap v) = nI (min 1000000 v)) ∧ (¬ cap v ≤ 1000000 → (1000000 : Int32) = nI (min 1000000 v)) := by
  unfold cap
  refine ⟨fun q => ?_, fun q => ?_⟩
  · rw [show min 1000001 v = min 1000000 v by omega]
  · rw [show min 1000000 v = 1000000 by omega]; rfl
section W1
variable {x : JX} {h : JH} {nc : Nat} {s : Nat → Nat}
theorem j_X9_walk_no {v w : Int32} (hv : isin v 0 3 = false) : JF x yX9_walk cX9_walk 3 (some .int) 3 0 0 [.ref 38, .int v, .int w] h (some (.int (-1))) h := by
  refine JM_of [some (.ref 38), some (.int v), some (.int w)] (by decide) (Nat.le_of_ble_eq_true rfl) rfl ?_
  refine J_iload_n (pq := 1) dX9_walk_0 rfl rfl (J_iconst (pq := 2) dX9_walk_1 rfl c_iconst_0 (J_iconst (pq := 3) dX9_walk_2 rfl c_iconst_3 (J_statF (pq := 6) dX9_walk_3 rfl (j_X9_isIn) rfl tg_X9_isIn l_X9_137 st_X9_isIn (Nat.le_of_ble_eq_true rfl) (Nat.zero_le _) (Nat.zero_le _) (Nat.le_of_ble_eq_true rfl) (J_if_ne (pq := 9) (tgt := 11) dX9_walk_6 rfl rfl (fun c => ?_) (fun c => ?_)))))
  · rw [hv] at c; exact absurd rfl c
  · refine J_iconst (pq := 10) dX9_walk_9 rfl c_iconst_m1 (J_iret dX9_walk_10 rfl rfl ?_)
    exact ⟨rfl, rfl⟩
theorem sC_id (h : JH) : h = sC h (gi h 74, gi h 38 53) := JH_ext rfl (fun a b => by
  rw [gi_sC]
  by_cases h1 : a = 74
  · rw [if_pos h1]; simp [h1]
  · rw [if_neg h1]
    by_cases h2 : a = 38 ∧ b = 53
    · rw [if_pos h2, h2.1, h2.2]
    · rw [if_neg h2])
theorem j_X9_walk {r e : Nat} {tc : Cond} {w : Int32} (hK : Kin h) (hR : MR h) (hr : r < 4) (hM : MRec (gi h) r tc e) (hO : POK tc 5) : JM x yX9_walk cX9_walk 3 (some .int) 3 0 0 [.ref 38, .int (nI r), .int w] h (fun v g => v = some (.int (mWalk tc e w)) ∧ ∃ s, g = sC h s) := by
  refine JM_of [some (.ref 38), some (.int (nI r)), some (.int w)] (by decide) (Nat.le_of_ble_eq_true rfl) rfl ?_
  have hb5 : vp_in (nI r) 5 := vp_in_nI (by omega) (by omega)
  have hxr : ix (nI r) = r := ixn (by omega)
  obtain ⟨-, he, o, -, -, h62, h66, h67, -⟩ := id hM
  have cap1 := cap_lt (pP tc)
  have cap2 := cap_lt (pW tc)
  refine J_iload_n (pq := 1) dX9_walk_0 rfl rfl (J_iconst (pq := 2) dX9_walk_1 rfl c_iconst_0 (J_iconst (pq := 3) dX9_walk_2 rfl c_iconst_3 (J_statF (pq := 6) dX9_walk_3 rfl (j_X9_isIn) rfl tg_X9_isIn l_X9_137 st_X9_isIn (Nat.le_of_ble_eq_true rfl) (Nat.zero_le _) (Nat.zero_le _) (Nat.le_of_ble_eq_true rfl) (J_if_ne (pq := 9) (tgt := 11) dX9_walk_6 rfl rfl (fun c => ?_) (fun c => ?_)))))
  · refine J_iload_n (pq := 12) dX9_walk_11 rfl rfl (?_)
    by_cases hw : isin w 0 3 = true
    · obtain ⟨k, hk, rfl⟩ := (isK (n := 3) (by omega)).mp hw
      rcases (show k = 0 ∨ k = 1 ∨ k = 2 ∨ k = 3 by omega) with rfl | rfl | rfl | rfl
      · refine J_tabIn (tgt := 44) dX9_walk_12 (by decide) (by decide) rfl rfl ?_
        refine J_aload_n (pq := 45) dX9_walk_44 rfl rfl (J_getA (pq := 48) dX9_walk_45 rfl f_X9_88 (by decide +kernel) (hK.at rfl) (hR _ _ rfl) (J_iload_n (pq := 49) dX9_walk_48 rfl rfl (J_iald (pq := 50) dX9_walk_49 rfl (hK.at rfl) (by assumption) (J_iret dX9_walk_50 rfl rfl ?_))))
        refine ⟨?_, _, sC_id h⟩
        rw [hxr, h62]; rfl
      · refine J_tabIn (tgt := 51) dX9_walk_12 (by decide) (by decide) rfl rfl ?_
        refine J_aload_n (pq := 52) dX9_walk_51 rfl rfl (J_iload_n (pq := 53) dX9_walk_52 rfl rfl (J_virt (pq := 56) dX9_walk_53 rfl (j_X9_mostVolts hK hR hr hM hO) rfl tg_X9_mostVolts l_X9_307 vi_X9_mostVolts (hK.at rfl) ⟨by decide, rfl⟩ (Nat.le_of_ble_eq_true rfl) (Nat.zero_le _) (Nat.zero_le _) (Nat.le_of_ble_eq_true rfl) (fun v g hq => ?_)))
        obtain ⟨rfl, s', rfl⟩ := hq
        refine J_iret dX9_walk_56 rfl rfl ?_
        exact ⟨rfl, s', rfl⟩
      · refine J_tabIn (tgt := 57) dX9_walk_12 (by decide) (by decide) rfl rfl ?_
        refine J_aload_n (pq := 58) dX9_walk_57 rfl rfl (J_getA (pq := 61) dX9_walk_58 rfl f_X9_100 (by decide +kernel) (hK.at rfl) (hR _ _ rfl) (J_iload_n (pq := 62) dX9_walk_61 rfl rfl (J_iald (pq := 63) dX9_walk_62 rfl (hK.at rfl) (by assumption) (J_ldcw (pq := 66) dX9_walk_63 rfl k_X9_310 (J_icmp_le (pq := 69) (tgt := 75) dX9_walk_66 rfl rfl (fun c => ?_) (fun c => ?_))))))
        · rw [hxr, h66, show (1000000 : Int32) = nI 1000000 from rfl, nI_leI (by omega) (by omega)] at c
          refine J_aload_n (pq := 76) dX9_walk_75 rfl rfl (J_getA (pq := 79) dX9_walk_76 rfl f_X9_100 (by decide +kernel) (hK.at rfl) (hR _ _ rfl) (J_iload_n (pq := 80) dX9_walk_79 rfl rfl (J_iald (pq := 81) dX9_walk_80 rfl (hK.at rfl) (by assumption) (J_iret dX9_walk_81 rfl rfl ?_))))
          refine ⟨?_, _, sC_id h⟩
          rw [hxr, h66, (cap_1M _).1 c]; rfl
        · rw [hxr, h66, show (1000000 : Int32) = nI 1000000 from rfl, nI_leI (by omega) (by omega)] at c
          refine J_ldcw (pq := 72) dX9_walk_69 rfl k_X9_310 (J_goto (tgt := 81) dX9_walk_72 rfl (J_iret dX9_walk_81 rfl rfl ?_))
          refine ⟨?_, _, sC_id h⟩
          rw [(cap_1M _).2 c]; rfl
      · refine J_tabIn (tgt := 82) dX9_walk_12 (by decide) (by decide) rfl rfl ?_
        refine J_aload_n (pq := 83) dX9_walk_82 rfl rfl (J_getA (pq := 86) dX9_walk_83 rfl f_X9_103 (by decide +kernel) (hK.at rfl) (hR _ _ rfl) (J_iload_n (pq := 87) dX9_walk_86 rfl rfl (J_iald (pq := 88) dX9_walk_87 rfl (hK.at rfl) (by assumption) (J_ldcw (pq := 91) dX9_walk_88 rfl k_X9_310 (J_icmp_le (pq := 94) (tgt := 100) dX9_walk_91 rfl rfl (fun c => ?_) (fun c => ?_))))))
        · rw [hxr, h67, show (1000000 : Int32) = nI 1000000 from rfl, nI_leI (by omega) (by omega)] at c
          refine J_aload_n (pq := 101) dX9_walk_100 rfl rfl (J_getA (pq := 104) dX9_walk_101 rfl f_X9_103 (by decide +kernel) (hK.at rfl) (hR _ _ rfl) (J_iload_n (pq := 105) dX9_walk_104 rfl rfl (J_iald (pq := 106) dX9_walk_105 rfl (hK.at rfl) (by assumption) (J_iret dX9_walk_106 rfl rfl ?_))))
          refine ⟨?_, _, sC_id h⟩
          rw [hxr, h67, (cap_1M _).1 c]; rfl
        · rw [hxr, h67, show (1000000 : Int32) = nI 1000000 from rfl, nI_leI (by omega) (by omega)] at c
          refine J_ldcw (pq := 97) dX9_walk_94 rfl k_X9_310 (J_goto (tgt := 106) dX9_walk_97 rfl (J_iret dX9_walk_106 rfl rfl ?_))
          refine ⟨?_, _, sC_id h⟩
          rw [(cap_1M _).2 c]; rfl
    · rw [isin_t] at hw
      have z0 : (0 : Int32).toInt = 0 := rfl
      have z3 : (3 : Int32).toInt = 3 := rfl
      rw [z0, z3] at hw
      refine J_tabOut (tgt := 107) dX9_walk_12 (by omega) rfl ?_
      refine J_iconst (pq := 108) dX9_walk_107 rfl c_iconst_m1 (J_iret dX9_walk_108 rfl rfl ?_)
      refine ⟨?_, _, sC_id h⟩
      unfold mWalk
      rw [if_neg (fun q => hw (by rw [q]; decide)), if_neg (fun q => hw (by rw [q]; decide)), if_neg (fun q => hw (by rw [q]; decide)), if_neg (fun q => hw (by rw [q]; decide))]
  · rw [show isin (nI r) 0 3 = true from (isK (n := 3) (by omega)).mpr ⟨r, by omega, rfl⟩] at c
    exact absurd c (by decide)
theorem MW_sC {t : (Nat → Int32) × Int32} (hW : MW h nc s) : MW (sC h t) nc s := hW.of rfl (sC_o (by decide) (by simp)) (fun i _ => sC_o (by decide) (by simp))
theorem mBad_sC {t : (Nat → Int32) × Int32} (i : Nat) : mBad (sC h t) i = mBad h i := mBad_of (fun b => sC_o (by decide) (by simp))
theorem j_X9_isFit {r e i : Nat} {tc : Cond} (hK : Kin h) (hR : MR h) (hr : r < 4) (hi : i < 4) (hM : MRec (gi h) r tc e) (hO : POK tc 5) : JM x yX9_isFit cX9_isFit 3 (some .boolean) 3 0 0 [.ref 38, .int (nI i), .int (nI r)] h (fun v g => v = some (.int (bi (mFit h i tc))) ∧ ∃ s, g = sC h s) := by
  refine JM_of [some (.ref 38), some (.int (nI i)), some (.int (nI r))] (by decide) (Nat.le_of_ble_eq_true rfl) rfl ?_
  have hb5 : vp_in (nI r) 5 := vp_in_nI (by omega) (by omega)
  have hxr : ix (nI r) = r := ixn (by omega)
  have hb4 : vp_in (nI i) 4 := vp_in_nI (by omega) (by omega)
  have hxi : ix (nI i) = i := ixn (by omega)
  obtain ⟨-, he, o, -, -, h62, h66, h67, -⟩ := id hM
  refine J_aload_n (pq := 1) dX9_isFit_0 rfl rfl (J_iload_n (pq := 2) dX9_isFit_1 rfl rfl (J_virt (pq := 5) dX9_isFit_2 rfl (j_X9_mostVolts hK hR hr hM hO) rfl tg_X9_mostVolts l_X9_307 vi_X9_mostVolts (hK.at rfl) ⟨by decide, rfl⟩ (Nat.le_of_ble_eq_true rfl) (Nat.zero_le _) (Nat.zero_le _) (Nat.le_of_ble_eq_true rfl) (fun v g hq => ?_)))
  obtain ⟨rfl, s', rfl⟩ := hq
  have hK' := Kin_sC (s := s') hK
  have hR' := MR_sC (s := s') hR
  refine J_aload_n (pq := 6) dX9_isFit_5 rfl rfl (J_getA (pq := 9) dX9_isFit_6 rfl f_X9_45 (by decide +kernel) (hK'.at rfl) (hR' _ _ rfl) (J_iload_n (pq := 10) dX9_isFit_9 rfl rfl (J_iald (pq := 11) dX9_isFit_10 rfl (hK'.at rfl) (by assumption) (J_icmp_gt (pq := 14) (tgt := 45) dX9_isFit_11 rfl rfl (fun c => ?_) (fun c => ?_)))))
  · rw [hxi, sC_o (by decide) (by simp)] at c
    refine J_iconst (pq := 46) dX9_isFit_45 rfl c_iconst_0 (J_iret dX9_isFit_46 rfl (by first | rfl | exact bi_nar _) ?_)
    refine ⟨?_, s', rfl⟩
    unfold mFit
    rw [decide_eq_false (i_nle.mpr c)]; rfl
  · rw [hxi, sC_o (by decide) (by simp)] at c
    have c1 := i_nlt.mp c
    refine J_aload_n (pq := 15) dX9_isFit_14 rfl rfl (J_getA (pq := 18) dX9_isFit_15 rfl f_X9_100 (by decide +kernel) (hK'.at rfl) (hR' _ _ rfl) (J_iload_n (pq := 19) dX9_isFit_18 rfl rfl (J_iald (pq := 20) dX9_isFit_19 rfl (hK'.at rfl) (by assumption) (J_aload_n (pq := 21) dX9_isFit_20 rfl rfl (J_getA (pq := 24) dX9_isFit_21 rfl f_X9_48 (by decide +kernel) (hK'.at rfl) (hR' _ _ rfl) (J_iload_n (pq := 25) dX9_isFit_24 rfl rfl (J_iald (pq := 26) dX9_isFit_25 rfl (hK'.at rfl) (by assumption) (J_icmp_gt (pq := 29) (tgt := 45) dX9_isFit_26 rfl rfl (fun c => ?_) (fun c => ?_)))))))))
    · rw [hxi, hxr, sC_o (by decide) (by simp), sC_o (by decide) (by simp), h66] at c
      refine J_iconst (pq := 46) dX9_isFit_45 rfl c_iconst_0 (J_iret dX9_isFit_46 rfl (by first | rfl | exact bi_nar _) ?_)
      refine ⟨?_, s', rfl⟩
      unfold mFit
      rw [decide_eq_false (i_nle.mpr c), Bool.and_false]; rfl
    · rw [hxi, hxr, sC_o (by decide) (by simp), sC_o (by decide) (by simp), h66] at c
      have c2 := i_nlt.mp c
      refine J_aload_n (pq := 30) dX9_isFit_29 rfl rfl (J_getA (pq := 33) dX9_isFit_30 rfl f_X9_103 (by decide +kernel) (hK'.at rfl) (hR' _ _ rfl) (J_iload_n (pq := 34) dX9_isFit_33 rfl rfl (J_iald (pq := 35) dX9_isFit_34 rfl (hK'.at rfl) (by assumption) (J_sipush (pq := 38) dX9_isFit_35 rfl c_sipush_5000 (J_icmp_gt (pq := 41) (tgt := 45) dX9_isFit_38 rfl rfl (fun c => ?_) (fun c => ?_))))))
      · rw [hxr, sC_o (by decide) (by simp), h67] at c
        refine J_iconst (pq := 46) dX9_isFit_45 rfl c_iconst_0 (J_iret dX9_isFit_46 rfl (by first | rfl | exact bi_nar _) ?_)
        refine ⟨?_, s', rfl⟩
        unfold mFit
        rw [decide_eq_false (i_nle.mpr c), Bool.and_false]; rfl
      · rw [hxr, sC_o (by decide) (by simp), h67] at c
        have c3 := i_nlt.mp c
        refine J_iconst (pq := 42) dX9_isFit_41 rfl c_iconst_1 (J_goto (tgt := 46) dX9_isFit_42 rfl (J_iret dX9_isFit_46 rfl (by first | rfl | exact bi_nar _) ?_))
        refine ⟨?_, s', rfl⟩
        unfold mFit
        rw [decide_eq_true c1, decide_eq_true c2, decide_eq_true c3]; rfl
theorem j_X9_whyNot {r e i f w : Nat} {tc : Cond} {id : Int32} (hW : MW h nc s) (hr : r < 4) (hi : i < nc) (hf : f ≤ 255) (hw : 1 ≤ w ∧ w ≤ 8) (hM : MRec (gi h) r tc e) (hO : POK tc 5) : JM x yX9_whyNot cX9_whyNot 9 (some .int) 4 0 0 [.ref 38, .int (nI i), .int (nI r), .int id, .int (nI f), .int (nI w)] h (fun v g => v = some (.int (mWhy h i (s i) tc id f w)) ∧ ∃ s, g = sC h s) := by
  have hW0 := hW
  obtain ⟨hK, hR, hc, hc4, hs⟩ := hW
  obtain ⟨hs1, hs2, hs3⟩ := hs i hi
  refine JM_of [some (.ref 38), some (.int (nI i)), some (.int (nI r)), some (.int id), some (.int (nI f)), some (.int (nI w)), none, none, none] (by decide) (Nat.le_of_ble_eq_true rfl) rfl ?_
  have hb4 : vp_in (nI i) 4 := vp_in_nI (by omega) (by omega)
  have hxi : ix (nI i) = i := ixn (by omega)
  refine J_aload_n (pq := 1) dX9_whyNot_0 rfl rfl (J_iload_n (pq := 2) dX9_whyNot_1 rfl rfl (J_virtF (pq := 5) dX9_whyNot_2 rfl (j_X9_lacking hK hR (by omega)) rfl tg_X9_lacking l_X9_213 vi_X9_lacking (hK.at rfl) ⟨by decide, rfl⟩ (Nat.le_of_ble_eq_true rfl) (Nat.zero_le _) (Nat.zero_le _) (Nat.le_of_ble_eq_true rfl) (J_if_lt (pq := 8) (tgt := 10) dX9_whyNot_5 rfl rfl (fun c => ?_) (fun c => ?_))))
  · have c1 := c
    refine J_aload_n (pq := 11) dX9_whyNot_10 rfl rfl (J_getA (pq := 14) dX9_whyNot_11 rfl f_X9_36 (by decide +kernel) (hK.at rfl) (hR _ _ rfl) (J_iload_n (pq := 15) dX9_whyNot_14 rfl rfl (J_iald (pq := 16) dX9_whyNot_15 rfl (hK.at rfl) (by assumption) (J_iload_n (pq := 17) dX9_whyNot_16 rfl rfl (J_icmp_eq (pq := 20) (tgt := 22) dX9_whyNot_17 rfl rfl (fun c => ?_) (fun c => ?_))))))
    · rw [hxi] at c
      have c2 := c
      refine J_aload_n (pq := 23) dX9_whyNot_22 rfl rfl (J_iload_n (pq := 24) dX9_whyNot_23 rfl rfl (J_iload_n (pq := 25) dX9_whyNot_24 rfl rfl (J_virt (pq := 28) dX9_whyNot_25 rfl (j_X9_isFit hK hR hr (by omega) hM hO) rfl tg_X9_isFit l_X9_311 vi_X9_isFit (hK.at rfl) ⟨by decide, rfl⟩ (Nat.le_of_ble_eq_true rfl) (Nat.zero_le _) (Nat.zero_le _) (Nat.le_of_ble_eq_true rfl) (fun v g hq => ?_))))
      obtain ⟨rfl, s', rfl⟩ := hq
      have hK' := Kin_sC (s := s') hK
      have hR' := MR_sC (s := s') hR
      have hW' := MW_sC (t := s') hW0
      have eB := mBad_sC (h := h) (t := s') i
      refine J_if_ne (pq := 31) (tgt := 33) dX9_whyNot_28 rfl rfl (fun c => ?_) (fun c => ?_)
      · rw [bi_0, Bool.not_eq_false] at c
        have c3 := c
        refine J_iconst (pq := 34) dX9_whyNot_33 rfl c_iconst_0 (J_istore (pq := 36) dX9_whyNot_34 rfl (Nat.le_of_ble_eq_true rfl) (Nat.le_of_ble_eq_true rfl) rfl (?_))
        have hmW : mWhy h i (s i) tc id f w = if (∀ k, k < mRch h i (s i) f w → mFwd h i (s i) f w k = true) then 0 else 4 := by
          unfold mWhy
          rw [if_neg (fun q => q c1), if_neg (fun q => q c2), if_neg (by rw [c3]; decide)]
        have hn : mRch h i (s i) f w ≤ (255 - f) / w + 1 := Nat.min_le_right _ _
        have hn2 : mRch h i (s i) f w ≤ 8 * goodc (mBad h i) (s i) := Nat.min_le_left _ _
        have hgl := goodc_le (mBad h i) (s i)
        refine J_loop (σ := Nat) (fun k => [some (.ref 38), some (.int (nI i)), some (.int (nI r)), some (.int id), some (.int (nI f)), some (.int (nI w)), some (.int (nI k)), none, none]) (fun _ => []) (fun _ => sC h s') (fun k => k ≤ mRch h i (s i) f w ∧ ∀ j, j < k → mFwd h i (s i) f w j = true) (fun k => mRch h i (s i) f w - k) 0 rfl rfl rfl ⟨Nat.zero_le _, fun j q => absurd q (Nat.not_lt_zero _)⟩ (fun k hk ih => ?_)
        obtain ⟨k1, k2⟩ := hk
        refine J_iload (pq := 38) dX9_whyNot_36 rfl rfl (J_aload_n (pq := 39) dX9_whyNot_38 rfl rfl (J_iload_n (pq := 40) dX9_whyNot_39 rfl rfl (J_iload (pq := 42) dX9_whyNot_40 rfl rfl (J_iload (pq := 44) dX9_whyNot_42 rfl rfl (J_virtF (pq := 47) dX9_whyNot_44 rfl (j_X9_last hW' hi hf hw) rfl tg_X9_last l_X9_314 vi_X9_last (hK'.at rfl) ⟨by decide, rfl⟩ (Nat.le_of_ble_eq_true rfl) (Nat.zero_le _) (Nat.zero_le _) (Nat.le_of_ble_eq_true rfl) (?_))))))
        rw [eB]
        refine J_icmp_ge (pq := 50) (tgt := 117) dX9_whyNot_47 rfl rfl (fun c => ?_) (fun c => ?_)
        · rw [nI_leI (by omega) (by omega)] at c
          have hk : k = mRch h i (s i) f w := Nat.le_antisymm k1 c
          refine J_iconst (pq := 118) dX9_whyNot_117 rfl c_iconst_0 (J_iret dX9_whyNot_118 rfl rfl ?_)
          refine ⟨?_, s', rfl⟩
          rw [hmW, if_pos (fun j q => k2 j (by omega))]
        · rw [nI_leI (by omega) (by omega)] at c
          have hk : k < mRch h i (s i) f w := Nat.lt_of_not_le c
          have hfw := fw_le hf hn hk
          have hal := mAdr_lt (h := h) (s := s) (i := i) (Nat.lt_of_lt_of_le hk hn2) hs3
          have heA : 8 * nthg (mBad (sC h s') i) (s i) (k / 8) 0 + k % 8 = mAdr h i (s i) k := by rw [eB]; rfl
          refine J_bipush (pq := 52) dX9_whyNot_50 rfl c_bipush_64 (J_iload_n (pq := 53) dX9_whyNot_52 rfl rfl (J_imul (pq := 54) dX9_whyNot_53 rfl (J_aload_n (pq := 55) dX9_whyNot_54 rfl rfl (J_iload_n (pq := 56) dX9_whyNot_55 rfl rfl (J_iload (pq := 58) dX9_whyNot_56 rfl rfl (J_virtF (pq := 61) dX9_whyNot_58 rfl (j_X9_addressOf hW' hi (by rw [eB]; omega)) rfl tg_X9_addressOf l_X9_210 vi_X9_addressOf (hK'.at rfl) ⟨by decide, rfl⟩ (Nat.le_of_ble_eq_true rfl) (Nat.zero_le _) (Nat.zero_le _) (Nat.le_of_ble_eq_true rfl) (?_)))))))
          rw [heA]
          have hadr : (64 : Int32) * nI i + nI (mAdr h i (s i) k) = nI (64 * i + mAdr h i (s i) k) := ia64 _ _
          have hb1 : vp_in ((64 : Int32) * nI i + nI (mAdr h i (s i) k)) 256 := vinN hadr (by omega) (by omega)
          have hx1 : ix ((64 : Int32) * nI i + nI (mAdr h i (s i) k)) = 64 * i + mAdr h i (s i) k := by rw [hadr, ixn (by omega)]
          have hfk : nI f + nI w * nI k = nI (f + w * k) := im_n f w k
          have hb2 : vp_in (nI f + nI w * nI k) 256 := vinN hfk (by omega) (by omega)
          have hx2 : ix (nI f + nI w * nI k) = f + w * k := by rw [hfk, ixn (by omega)]
          have e39 : ∀ b, gi (sC h s') 39 b = gi h 39 b := fun b => sC_o (by decide) (by simp)
          have e54 : ∀ b, gi (sC h s') 54 b = gi h 54 b := fun b => sC_o (by decide) (by simp)
          have e55 : ∀ b, gi (sC h s') 55 b = gi h 55 b := fun b => sC_o (by decide) (by simp)
          have hbad : mFwd h i (s i) f w k = false → (4 : Int32) = mWhy h i (s i) tc id f w := fun q => by
            rw [hmW, if_neg (fun z => by rw [z k hk] at q; cases q)]
          refine J_iadd (pq := 62) dX9_whyNot_61 rfl (J_istore (pq := 64) dX9_whyNot_62 rfl (Nat.le_of_ble_eq_true rfl) (Nat.le_of_ble_eq_true rfl) rfl (J_aload_n (pq := 65) dX9_whyNot_64 rfl rfl (J_getA (pq := 68) dX9_whyNot_65 rfl f_X9_7 (by decide +kernel) (hK'.at rfl) (hR' _ _ rfl) (J_iload (pq := 70) dX9_whyNot_68 rfl rfl (J_iload (pq := 72) dX9_whyNot_70 rfl rfl (J_iload (pq := 74) dX9_whyNot_72 rfl rfl (J_imul (pq := 75) dX9_whyNot_74 rfl (J_iadd (pq := 76) dX9_whyNot_75 rfl (J_iald (pq := 77) dX9_whyNot_76 rfl (hK'.at rfl) (by assumption) (J_istore (pq := 79) dX9_whyNot_77 rfl (Nat.le_of_ble_eq_true rfl) (Nat.le_of_ble_eq_true rfl) rfl (J_iload (pq := 81) dX9_whyNot_79 rfl rfl (J_aload_n (pq := 82) dX9_whyNot_81 rfl rfl (J_getA (pq := 85) dX9_whyNot_82 rfl f_X9_64 (by decide +kernel) (hK'.at rfl) (hR' _ _ rfl) (J_iload (pq := 87) dX9_whyNot_85 rfl rfl (J_iald (pq := 88) dX9_whyNot_87 rfl (hK'.at rfl) (by assumption) (J_iconst (pq := 89) dX9_whyNot_88 rfl c_iconst_m1 (J_ixor (pq := 90) dX9_whyNot_89 rfl (J_iand (pq := 91) dX9_whyNot_90 rfl (J_if_ne (pq := 94) (tgt := 109) dX9_whyNot_91 rfl rfl (fun c => ?_) (fun c => ?_))))))))))))))))))))
          · rw [hx1, hx2, e39, e54] at c
            refine J_iconst (pq := 110) dX9_whyNot_109 rfl c_iconst_4 (J_iret dX9_whyNot_110 rfl rfl ?_)
            refine ⟨?_, s', rfl⟩
            rw [hbad (by unfold mFwd; rw [decide_eq_false c]; rfl)]
          · rw [hx1, hx2, e39, e54] at c
            have c5 := c
            refine J_iload (pq := 96) dX9_whyNot_94 rfl rfl (J_aload_n (pq := 97) dX9_whyNot_96 rfl rfl (J_getA (pq := 100) dX9_whyNot_97 rfl f_X9_67 (by decide +kernel) (hK'.at rfl) (hR' _ _ rfl) (J_iload (pq := 102) dX9_whyNot_100 rfl rfl (J_iald (pq := 103) dX9_whyNot_102 rfl (hK'.at rfl) (by assumption) (J_iconst (pq := 104) dX9_whyNot_103 rfl c_iconst_m1 (J_ixor (pq := 105) dX9_whyNot_104 rfl (J_iand (pq := 106) dX9_whyNot_105 rfl (J_if_eq (pq := 109) (tgt := 111) dX9_whyNot_106 rfl rfl (fun c => ?_) (fun c => ?_)))))))))
            · rw [hx1, hx2, e39, e55] at c
              refine J_iinc (pq := 114) dX9_whyNot_111 rfl c_iconst_1 rfl (Nat.le_of_ble_eq_true rfl) rfl (J_goto (tgt := 36) dX9_whyNot_114 rfl (?_))
              rw [nI_1]
              refine J_weak (by simp [lsub]) rfl rfl (ih (k + 1) ⟨by omega, fun j q => ?_⟩ (by omega))
              by_cases hj : j = k
              · subst hj; unfold mFwd; rw [decide_eq_true c5, decide_eq_true c]; rfl
              · exact k2 j (by omega)
            · rw [hx1, hx2, e39, e55] at c
              refine J_iconst (pq := 110) dX9_whyNot_109 rfl c_iconst_4 (J_iret dX9_whyNot_110 rfl rfl ?_)
              refine ⟨?_, s', rfl⟩
              rw [hbad (by unfold mFwd; rw [decide_eq_false c, Bool.and_false])]
      · rw [bi_0] at c
        refine J_iconst (pq := 32) dX9_whyNot_31 rfl c_iconst_3 (J_iret dX9_whyNot_32 rfl rfl ?_)
        refine ⟨?_, s', rfl⟩
        unfold mWhy
        rw [if_neg (fun q => q c1), if_neg (fun q => q c2), if_pos c]
    · rw [hxi] at c
      refine J_iconst (pq := 21) dX9_whyNot_20 rfl c_iconst_2 (J_iret dX9_whyNot_21 rfl rfl ?_)
      refine ⟨?_, _, sC_id h⟩
      unfold mWhy
      rw [if_neg (fun q => q c1), if_pos c]
  · have c1 := c
    refine J_iconst (pq := 9) dX9_whyNot_8 rfl c_iconst_1 (J_iret dX9_whyNot_9 rfl rfl ?_)
    refine ⟨?_, _, sC_id h⟩
    unfold mWhy
    rw [if_pos (by exact c1)]
/-- what a call of why is asked within -/
def whyOk (h : JH) (v r id f w : Int32) : Bool := isin v 0 (gi h 38 12 - 1) && isin r 0 3 && isin id 0 255 && (isin f 0 255 && isin w 1 8)
theorem j_X9_why_no {v r id f w : Int32} (hK : Kin h) (hn : whyOk h v r id f w = false) : JF x yX9_why cX9_why 6 (some .int) 5 0 0 [.ref 38, .int v, .int r, .int id, .int f, .int w] h (some (.int (-1))) h := by
  refine JM_of [some (.ref 38), some (.int v), some (.int r), some (.int id), some (.int f), some (.int w)] (by decide) (Nat.le_of_ble_eq_true rfl) rfl ?_
  unfold whyOk at hn
  refine J_aload_n (pq := 1) dX9_why_0 rfl rfl (J_iload_n (pq := 2) dX9_why_1 rfl rfl (J_virtF (pq := 5) dX9_why_2 rfl (j_X9_isChip hK) rfl tg_X9_isChip l_X9_199 vi_X9_isChip (hK.at rfl) ⟨by decide, rfl⟩ (Nat.le_of_ble_eq_true rfl) (Nat.zero_le _) (Nat.zero_le _) (Nat.le_of_ble_eq_true rfl) (J_if_eq (pq := 8) (tgt := 38) dX9_why_5 rfl rfl (fun c => ?_) (fun c => ?_))))
  · refine J_iconst (pq := 39) dX9_why_38 rfl c_iconst_m1 (J_iret dX9_why_39 rfl rfl ?_)
    exact ⟨rfl, rfl⟩
  · rw [bi_0, Bool.not_eq_false] at c
    rw [c, Bool.true_and] at hn
    refine J_iload_n (pq := 9) dX9_why_8 rfl rfl (J_iconst (pq := 10) dX9_why_9 rfl c_iconst_0 (J_iconst (pq := 11) dX9_why_10 rfl c_iconst_3 (J_statF (pq := 14) dX9_why_11 rfl (j_X9_isIn) rfl tg_X9_isIn l_X9_137 st_X9_isIn (Nat.le_of_ble_eq_true rfl) (Nat.zero_le _) (Nat.zero_le _) (Nat.le_of_ble_eq_true rfl) (J_if_eq (pq := 17) (tgt := 38) dX9_why_14 rfl rfl (fun c => ?_) (fun c => ?_)))))
    · refine J_iconst (pq := 39) dX9_why_38 rfl c_iconst_m1 (J_iret dX9_why_39 rfl rfl ?_)
      exact ⟨rfl, rfl⟩
    · rw [bi_0, Bool.not_eq_false] at c
      rw [c, Bool.true_and] at hn
      refine J_iload_n (pq := 18) dX9_why_17 rfl rfl (J_iconst (pq := 19) dX9_why_18 rfl c_iconst_0 (J_sipush (pq := 22) dX9_why_19 rfl c_sipush_255 (J_statF (pq := 25) dX9_why_22 rfl (j_X9_isIn) rfl tg_X9_isIn l_X9_137 st_X9_isIn (Nat.le_of_ble_eq_true rfl) (Nat.zero_le _) (Nat.zero_le _) (Nat.le_of_ble_eq_true rfl) (J_if_eq (pq := 28) (tgt := 38) dX9_why_25 rfl rfl (fun c => ?_) (fun c => ?_)))))
      · refine J_iconst (pq := 39) dX9_why_38 rfl c_iconst_m1 (J_iret dX9_why_39 rfl rfl ?_)
        exact ⟨rfl, rfl⟩
      · rw [bi_0, Bool.not_eq_false] at c
        rw [c, Bool.true_and] at hn
        refine J_iload (pq := 30) dX9_why_28 rfl rfl (J_iload (pq := 32) dX9_why_30 rfl rfl (J_statF (pq := 35) dX9_why_32 rfl (j_X9_isPart) rfl tg_X9_isPart l_X9_317 st_X9_isPart (Nat.le_of_ble_eq_true rfl) (Nat.zero_le _) (Nat.zero_le _) (Nat.le_of_ble_eq_true rfl) (J_if_ne (pq := 38) (tgt := 40) dX9_why_35 rfl rfl (fun c => ?_) (fun c => ?_))))
        · rw [hn] at c; exact absurd rfl c
        · refine J_iconst (pq := 39) dX9_why_38 rfl c_iconst_m1 (J_iret dX9_why_39 rfl rfl ?_)
          exact ⟨rfl, rfl⟩
theorem j_X9_why {r e i f w : Nat} {tc : Cond} {id : Int32} (hW : MW h nc s) (hr : r < 4) (hi : i < nc) (hf : f ≤ 255) (hw : 1 ≤ w ∧ w ≤ 8) (hid : isin id 0 255 = true) (hM : MRec (gi h) r tc e) (hO : POK tc 5) : JM x yX9_why cX9_why 6 (some .int) 5 0 0 [.ref 38, .int (nI i), .int (nI r), .int id, .int (nI f), .int (nI w)] h (fun v g => v = some (.int (mWhy h i (s i) tc id f w)) ∧ ∃ s, g = sC h s) := by
  have hW0 := hW
  obtain ⟨hK, hR, hc, hc4, hs⟩ := hW
  refine JM_of [some (.ref 38), some (.int (nI i)), some (.int (nI r)), some (.int id), some (.int (nI f)), some (.int (nI w))] (by decide) (Nat.le_of_ble_eq_true rfl) rfl ?_
  have b1 : isin (nI i) 0 (gi h 38 12 - 1) = true := by rw [hc, isinN (by omega)]; exact ⟨i, hi, rfl⟩
  have b2 : isin (nI r) 0 3 = true := (isK (n := 3) (by omega)).mpr ⟨r, by omega, rfl⟩
  have b3 : isin (nI f) 0 255 = true := (isK (n := 255) (by omega)).mpr ⟨f, by omega, rfl⟩
  have b4 : isin (nI w) 1 8 = true := by
    rw [isin_t, nI_toInt (by omega), show (1 : Int32).toInt = 1 from rfl, show (8 : Int32).toInt = 8 from rfl]; omega
  refine J_aload_n (pq := 1) dX9_why_0 rfl rfl (J_iload_n (pq := 2) dX9_why_1 rfl rfl (J_virtF (pq := 5) dX9_why_2 rfl (j_X9_isChip hK) rfl tg_X9_isChip l_X9_199 vi_X9_isChip (hK.at rfl) ⟨by decide, rfl⟩ (Nat.le_of_ble_eq_true rfl) (Nat.zero_le _) (Nat.zero_le _) (Nat.le_of_ble_eq_true rfl) (J_if_eq (pq := 8) (tgt := 38) dX9_why_5 rfl rfl (fun c => ?_) (fun c => ?_))))
  · rw [b1] at c; exact absurd c (by decide)
  · refine J_iload_n (pq := 9) dX9_why_8 rfl rfl (J_iconst (pq := 10) dX9_why_9 rfl c_iconst_0 (J_iconst (pq := 11) dX9_why_10 rfl c_iconst_3 (J_statF (pq := 14) dX9_why_11 rfl (j_X9_isIn) rfl tg_X9_isIn l_X9_137 st_X9_isIn (Nat.le_of_ble_eq_true rfl) (Nat.zero_le _) (Nat.zero_le _) (Nat.le_of_ble_eq_true rfl) (J_if_eq (pq := 17) (tgt := 38) dX9_why_14 rfl rfl (fun c => ?_) (fun c => ?_)))))
    · rw [b2] at c; exact absurd c (by decide)
    · refine J_iload_n (pq := 18) dX9_why_17 rfl rfl (J_iconst (pq := 19) dX9_why_18 rfl c_iconst_0 (J_sipush (pq := 22) dX9_why_19 rfl c_sipush_255 (J_statF (pq := 25) dX9_why_22 rfl (j_X9_isIn) rfl tg_X9_isIn l_X9_137 st_X9_isIn (Nat.le_of_ble_eq_true rfl) (Nat.zero_le _) (Nat.zero_le _) (Nat.le_of_ble_eq_true rfl) (J_if_eq (pq := 28) (tgt := 38) dX9_why_25 rfl rfl (fun c => ?_) (fun c => ?_)))))
      · rw [hid] at c; exact absurd c (by decide)
      · refine J_iload (pq := 30) dX9_why_28 rfl rfl (J_iload (pq := 32) dX9_why_30 rfl rfl (J_statF (pq := 35) dX9_why_32 rfl (j_X9_isPart) rfl tg_X9_isPart l_X9_317 st_X9_isPart (Nat.le_of_ble_eq_true rfl) (Nat.zero_le _) (Nat.zero_le _) (Nat.le_of_ble_eq_true rfl) (J_if_ne (pq := 38) (tgt := 40) dX9_why_35 rfl rfl (fun c => ?_) (fun c => ?_))))
        · refine J_aload_n (pq := 41) dX9_why_40 rfl rfl (J_iload_n (pq := 42) dX9_why_41 rfl rfl (J_iload_n (pq := 43) dX9_why_42 rfl rfl (J_iload_n (pq := 44) dX9_why_43 rfl rfl (J_iload (pq := 46) dX9_why_44 rfl rfl (J_iload (pq := 48) dX9_why_46 rfl rfl (J_virt (pq := 51) dX9_why_48 rfl (j_X9_whyNot hW0 hr hi hf hw hM hO) rfl tg_X9_whyNot l_X9_320 vi_X9_whyNot (hK.at rfl) ⟨by decide, rfl⟩ (Nat.le_of_ble_eq_true rfl) (Nat.zero_le _) (Nat.zero_le _) (Nat.le_of_ble_eq_true rfl) (fun v g hq => ?_)))))))
          obtain ⟨rfl, s', rfl⟩ := hq
          refine J_iret dX9_why_51 rfl rfl ?_
          exact ⟨rfl, s', rfl⟩
        · rw [b3, b4] at c; exact absurd c (by decide)
end W1
