-- the reference burns
theorem MRec_congr {G G' : Nat → Nat → Int32} {r e : Nat} {tc : Cond} (hM : MRec G r tc e) (hc : ∀ a b, 61 ≤ a → a ≤ 67 → G' a b = G a b) : MRec G' r tc e := by
  obtain ⟨hPG, he, o, h0, h1, h2, h3, h4, h5⟩ := hM
  exact ⟨hPG, he, o, h0, (hc _ _ (by omega) (by omega)).trans h1, (hc _ _ (by omega) (by omega)).trans h2, (hc _ _ (by omega) (by omega)).trans h3, (hc _ _ (by omega) (by omega)).trans h4, MS_congr tc hPG 0 o (fun k _ _ => ⟨hc _ _ (by omega) (by omega), hc _ _ (by omega) (by omega), hc _ _ (by omega) (by omega)⟩) h5⟩
section X6
variable {x : JX} {h : JH} {nc : Nat} {s : Nat → Nat}
theorem MW.of3 {g : JH} (hW : MW h nc s) (e : g.2.2 = h.2.2) (e1 : gi g 38 12 = gi h 38 12) (e2 : ∀ i, i < nc → gi g 44 i = gi h 44 i) : MW g nc s := by
  obtain ⟨h1, h2, h3, h4, h5⟩ := hW
  exact ⟨h1.of3 e, h2.of3 e, e1.trans h3, h4, fun i hi => ⟨(e2 i hi).trans (h5 i hi).1, (h5 i hi).2⟩⟩
theorem tS_id (h : JH) : h = tS h (gi h 75) (gi h 38 55) := JH_ext rfl (fun a b => by
  rw [gi_tS]
  by_cases h1 : a = 75
  · rw [if_pos h1]; simp [h1]
  · rw [if_neg h1]
    by_cases h2 : a = 38 ∧ b = 55
    · rw [if_pos h2, h2.1, h2.2]
    · rw [if_neg h2])
theorem j_X9_burn_no {v r id f w p : Int32} (hK : Kin h) (hn : (isin p 0 100000 && whyOk h v r id f w) = false) : JF x yX9_burn cX9_burn 10 (some .int) 6 0 0 [.ref 38, .int v, .int r, .int id, .int f, .int w, .int p] h (some (.int (-1))) h := by
  refine JM_of [some (.ref 38), some (.int v), some (.int r), some (.int id), some (.int f), some (.int w), some (.int p), none, none, none] (by decide) (Nat.le_of_ble_eq_true rfl) rfl ?_
  refine J_iload (pq := 2) dX9_burn_0 rfl rfl (J_iconst (pq := 3) dX9_burn_2 rfl c_iconst_0 (J_ldc (pq := 5) dX9_burn_3 rfl k_X9_245 (J_statF (pq := 8) dX9_burn_5 rfl (j_X9_isIn) rfl tg_X9_isIn l_X9_137 st_X9_isIn (Nat.le_of_ble_eq_true rfl) (Nat.zero_le _) (Nat.zero_le _) (Nat.le_of_ble_eq_true rfl) (J_if_eq (pq := 11) (tgt := 25) dX9_burn_8 rfl rfl (fun c => ?_) (fun c => ?_)))))
  · refine J_iconst (pq := 26) dX9_burn_25 rfl c_iconst_m1 (J_iret dX9_burn_26 rfl rfl ?_)
    exact ⟨rfl, rfl⟩
  · rw [bi_0, Bool.not_eq_false] at c
    rw [show isin p 0 100000 = true from c, Bool.true_and] at hn
    refine J_aload_n (pq := 12) dX9_burn_11 rfl rfl (J_iload_n (pq := 13) dX9_burn_12 rfl rfl (J_iload_n (pq := 14) dX9_burn_13 rfl rfl (J_iload_n (pq := 15) dX9_burn_14 rfl rfl (J_iload (pq := 17) dX9_burn_15 rfl rfl (J_iload (pq := 19) dX9_burn_17 rfl rfl (J_virtF (pq := 22) dX9_burn_19 rfl (j_X9_why_no hK hn) rfl tg_X9_why l_X9_333 vi_X9_why (hK.at rfl) ⟨by decide, rfl⟩ (Nat.le_of_ble_eq_true rfl) (Nat.zero_le _) (Nat.zero_le _) (Nat.le_of_ble_eq_true rfl) (J_if_eq (pq := 25) (tgt := 27) dX9_burn_22 rfl rfl (fun c => ?_) (fun c => ?_))))))))
    · exact absurd c (by decide)
    · refine J_iconst (pq := 26) dX9_burn_25 rfl c_iconst_m1 (J_iret dX9_burn_26 rfl rfl ?_)
      exact ⟨rfl, rfl⟩
/-- the bytes of a burning: what is pulsed, what is tested -/
def bnP (h : JH) (i s f w k : Nat) : JH → Nat → JH := mPu i (mAdr h i s k) (gi h 39 (f + w * k))
def bnR (h : JH) (i s f w k : Nat) : JH → Bool := mRt i (mAdr h i s k) (gi h 39 (f + w * k))
theorem j_X9_burn_why {r e i f w L : Nat} {tc : Cond} {id : Int32} (hW : MW h nc s) (hr : r < 4) (hi : i < nc) (hf : f ≤ 255) (hw : 1 ≤ w ∧ w ≤ 8) (hL : L ≤ 100000) (hid : isin id 0 255 = true) (hM : MRec (gi h) r tc e) (hO : POK tc 5) (hy : mWhy h i (s i) tc id f w ≠ 0) : JM x yX9_burn cX9_burn 10 (some .int) 6 0 0 [.ref 38, .int (nI i), .int (nI r), .int id, .int (nI f), .int (nI w), .int (nI L)] h (fun v g => v = some (.int (-1)) ∧ ∃ s, g = sC h s) := by
  refine JM_of [some (.ref 38), some (.int (nI i)), some (.int (nI r)), some (.int id), some (.int (nI f)), some (.int (nI w)), some (.int (nI L)), none, none, none] (by decide) (Nat.le_of_ble_eq_true rfl) rfl ?_
  have hK := hW.1
  refine J_iload (pq := 2) dX9_burn_0 rfl rfl (J_iconst (pq := 3) dX9_burn_2 rfl c_iconst_0 (J_ldc (pq := 5) dX9_burn_3 rfl k_X9_245 (J_statF (pq := 8) dX9_burn_5 rfl (j_X9_isIn) rfl tg_X9_isIn l_X9_137 st_X9_isIn (Nat.le_of_ble_eq_true rfl) (Nat.zero_le _) (Nat.zero_le _) (Nat.le_of_ble_eq_true rfl) (J_if_eq (pq := 11) (tgt := 25) dX9_burn_8 rfl rfl (fun c => ?_) (fun c => ?_)))))
  · refine J_iconst (pq := 26) dX9_burn_25 rfl c_iconst_m1 (J_iret dX9_burn_26 rfl rfl ?_)
    exact ⟨rfl, _, sC_id h⟩
  · refine J_aload_n (pq := 12) dX9_burn_11 rfl rfl (J_iload_n (pq := 13) dX9_burn_12 rfl rfl (J_iload_n (pq := 14) dX9_burn_13 rfl rfl (J_iload_n (pq := 15) dX9_burn_14 rfl rfl (J_iload (pq := 17) dX9_burn_15 rfl rfl (J_iload (pq := 19) dX9_burn_17 rfl rfl (J_virt (pq := 22) dX9_burn_19 rfl (j_X9_why hW hr hi hf hw hid hM hO) rfl tg_X9_why l_X9_333 vi_X9_why (hK.at rfl) ⟨by decide, rfl⟩ (Nat.le_of_ble_eq_true rfl) (Nat.zero_le _) (Nat.zero_le _) (Nat.le_of_ble_eq_true rfl) (fun v g hq => ?_)))))))
    obtain ⟨rfl, s', rfl⟩ := hq
    refine J_if_eq (pq := 25) (tgt := 27) dX9_burn_22 rfl rfl (fun c => ?_) (fun c => ?_)
    · exact absurd c hy
    · refine J_iconst (pq := 26) dX9_burn_25 rfl c_iconst_m1 (J_iret dX9_burn_26 rfl rfl ?_)
      exact ⟨rfl, s', rfl⟩
theorem j_X9_burn {r e i f w L : Nat} {tc : Cond} {id : Int32} (hW : MW h nc s) (hr : r < 4) (hi : i < nc) (hf : f ≤ 255) (hw : 1 ≤ w ∧ w ≤ 8) (hL : L ≤ 100000) (hid : isin id 0 255 = true) (hM : MRec (gi h) r tc e) (hO : POK tc 5) (hy : mWhy h i (s i) tc id f w = 0) : JM x yX9_burn cX9_burn 10 (some .int) 6 0 0 [.ref 38, .int (nI i), .int (nI r), .int id, .int (nI f), .int (nI w), .int (nI L)] h (fun v g => ∃ t T l, v = some (.int (nI L - nI (brn (bnP h i (s i) f w) (bnR h i (s i) f w) tc (sC h t, L) (mRch h i (s i) f w)).2)) ∧ g = tS (brn (bnP h i (s i) f w) (bnR h i (s i) f w) tc (sC h t, L) (mRch h i (s i) f w)).1 T l) := by
  refine JM_of [some (.ref 38), some (.int (nI i)), some (.int (nI r)), some (.int id), some (.int (nI f)), some (.int (nI w)), some (.int (nI L)), none, none, none] (by decide) (Nat.le_of_ble_eq_true rfl) rfl ?_
  have hW0 := hW
  obtain ⟨hK, hR, hc, hc4, hs⟩ := hW
  obtain ⟨hs1, hs2, hs3⟩ := hs i hi
  have hPG := hM.1
  refine J_iload (pq := 2) dX9_burn_0 rfl rfl (J_iconst (pq := 3) dX9_burn_2 rfl c_iconst_0 (J_ldc (pq := 5) dX9_burn_3 rfl k_X9_245 (J_statF (pq := 8) dX9_burn_5 rfl (j_X9_isIn) rfl tg_X9_isIn l_X9_137 st_X9_isIn (Nat.le_of_ble_eq_true rfl) (Nat.zero_le _) (Nat.zero_le _) (Nat.le_of_ble_eq_true rfl) (J_if_eq (pq := 11) (tgt := 25) dX9_burn_8 rfl rfl (fun c => ?_) (fun c => ?_)))))
  · rw [show isin (nI L) 0 100000 = true from (isK (n := 100000) (by omega)).mpr ⟨L, by omega, rfl⟩] at c
    exact absurd c (by decide)
  · refine J_aload_n (pq := 12) dX9_burn_11 rfl rfl (J_iload_n (pq := 13) dX9_burn_12 rfl rfl (J_iload_n (pq := 14) dX9_burn_13 rfl rfl (J_iload_n (pq := 15) dX9_burn_14 rfl rfl (J_iload (pq := 17) dX9_burn_15 rfl rfl (J_iload (pq := 19) dX9_burn_17 rfl rfl (J_virt (pq := 22) dX9_burn_19 rfl (j_X9_why hW0 hr hi hf hw hid hM hO) rfl tg_X9_why l_X9_333 vi_X9_why (hK.at rfl) ⟨by decide, rfl⟩ (Nat.le_of_ble_eq_true rfl) (Nat.zero_le _) (Nat.zero_le _) (Nat.le_of_ble_eq_true rfl) (fun v g hq => ?_)))))))
    obtain ⟨rfl, t, rfl⟩ := hq
    refine J_if_eq (pq := 25) (tgt := 27) dX9_burn_22 rfl rfl (fun c => ?_) (fun c => ?_)
    rotate_left
    · exact absurd hy c
    generalize hh0 : sC h t = h0 at *
    have hK0 : Kin h0 := by rw [← hh0]; exact Kin_sC hK
    have hR0 : MR h0 := by rw [← hh0]; exact MR_sC hR
    have hM0 : MRec (gi h0) r tc e := by rw [← hh0]; exact MRec_congr hM (fun a b _ _ => sC_o (by omega) (by omega))
    have hWs : MW h0 nc s := by rw [← hh0]; exact MW_sC hW0
    have hB0 : mBad h0 i = mBad h i := by rw [← hh0]; exact mBad_sC i
    have h39 : ∀ b, gi h0 39 b = gi h 39 b := fun b => by rw [← hh0]; exact sC_o (by decide) (by simp)
    have hI0 : wkI h0 h0 := ⟨hK0, hR0, PF.rf h0⟩
    have hn : mRch h i (s i) f w ≤ (255 - f) / w + 1 := Nat.min_le_right _ _
    have hn2 : mRch h i (s i) f w ≤ 8 * goodc (mBad h i) (s i) := Nat.min_le_left _ _
    have hgl := goodc_le (mBad h i) (s i)
    have hkp := fun k (hk : k ≤ mRch h i (s i) f w) => brn_kp (P := bnP h i (s i) f w) (R := bnR h i (s i) f w) (I := wkI h0) hPG (s := (h0, L)) (n := mRch h i (s i) f w) (fun k g v _ hg => wkI_P (h := h0) _ _ _ g v hg) hI0 k hk
    refine J_aload_n (pq := 28) dX9_burn_27 rfl rfl (J_iload (pq := 30) dX9_burn_28 rfl rfl (J_putI (pq := 33) dX9_burn_30 rfl f_X9_324 (Or.inl rfl) (hK0.at rfl) (J_iconst (pq := 34) dX9_burn_33 rfl c_iconst_0 (J_istore (pq := 36) dX9_burn_34 rfl (Nat.le_of_ble_eq_true rfl) (Nat.le_of_ble_eq_true rfl) rfl (?_)))))
    refine J_loop (σ := Nat × (Nat → Int32)) (fun z => [some (.ref 38), some (.int (nI i)), some (.int (nI r)), some (.int id), some (.int (nI f)), some (.int (nI w)), some (.int (nI L)), some (.int (nI z.1)), none, none]) (fun _ => []) (fun z => tS (brn (bnP h i (s i) f w) (bnR h i (s i) f w) tc (h0, L) z.1).1 z.2 (nI (brn (bnP h i (s i) f w) (bnR h i (s i) f w) tc (h0, L) z.1).2)) (fun z => z.1 ≤ mRch h i (s i) f w) (fun z => mRch h i (s i) f w - z.1) (0, gi h0 75) rfl rfl ?_ (Nat.zero_le _) (fun z hz ih => ?_)
    · show si h0 38 55 (nI L) = tS h0 (gi h0 75) (nI L)
      rw [← tS_L h0 (gi h0 75) (gi h0 38 55), ← tS_id]
    obtain ⟨k, T⟩ := z
    simp only at hz ih ⊢
    obtain ⟨q1, q2⟩ := hkp k hz
    have hstep : brn (bnP h i (s i) f w) (bnR h i (s i) f w) tc (h0, L) (k + 1) = if bnR h i (s i) f w k (brn (bnP h i (s i) f w) (bnR h i (s i) f w) tc (h0, L) k).1 = true then brn (bnP h i (s i) f w) (bnR h i (s i) f w) tc (h0, L) k else ((ex (bnP h i (s i) f w k) (bnR h i (s i) f w k) tc ((brn (bnP h i (s i) f w) (bnR h i (s i) f w) tc (h0, L) k).1, 0, false, (brn (bnP h i (s i) f w) (bnR h i (s i) f w) tc (h0, L) k).2)).1, (ex (bnP h i (s i) f w k) (bnR h i (s i) f w k) tc ((brn (bnP h i (s i) f w) (bnR h i (s i) f w) tc (h0, L) k).1, 0, false, (brn (bnP h i (s i) f w) (bnR h i (s i) f w) tc (h0, L) k).2)).2.2.2) := rfl
    generalize hZ : brn (bnP h i (s i) f w) (bnR h i (s i) f w) tc (h0, L) k = Z at *
    obtain ⟨g, l⟩ := Z
    simp only at q1 q2 hstep ⊢
    have hK' : Kin (tS g T (nI l)) := q1.1.of2 rfl
    have hR' : MR (tS g T (nI l)) := q1.2.1.of2 rfl
    have eo : ∀ a b, a ≠ 75 → a ≠ 38 → a ≠ 54 → a ≠ 55 → a ≠ 57 → a ≠ 58 → gi (tS g T (nI l)) a b = gi h0 a b := fun a b n1 n2 n3 n4 n5 n6 => by
      rw [tS_o n1 (by omega), q1.2.2.2.1 a b n3 n4 n5 n6]
    have hWg : MW (tS g T (nI l)) nc s := hWs.of3 (show g.2.2 = h0.2.2 from q1.2.2.1) (by rw [tS_o (by decide) (by simp), q1.2.2.2.1 38 12 (by decide) (by decide) (by decide) (by decide)]) (fun j _ => eo 44 j (by decide) (by decide) (by decide) (by decide) (by decide) (by decide))
    have eB : mBad (tS g T (nI l)) i = mBad h i := by rw [← hB0]; exact mBad_of (fun b => eo 59 b (by decide) (by decide) (by decide) (by decide) (by decide) (by decide))
    refine J_iload (pq := 38) dX9_burn_36 rfl rfl (J_aload_n (pq := 39) dX9_burn_38 rfl rfl (J_iload_n (pq := 40) dX9_burn_39 rfl rfl (J_iload (pq := 42) dX9_burn_40 rfl rfl (J_iload (pq := 44) dX9_burn_42 rfl rfl (J_virtF (pq := 47) dX9_burn_44 rfl (j_X9_last hWg hi hf hw) rfl tg_X9_last l_X9_314 vi_X9_last (hK'.at rfl) ⟨by decide, rfl⟩ (Nat.le_of_ble_eq_true rfl) (Nat.zero_le _) (Nat.zero_le _) (Nat.le_of_ble_eq_true rfl) (?_))))))
    rw [eB]
    refine J_icmp_ge (pq := 50) (tgt := 102) dX9_burn_47 rfl rfl (fun c => ?_) (fun c => ?_)
    · rw [nI_leI (by omega) (by omega)] at c
      have hk : k = mRch h i (s i) f w := Nat.le_antisymm hz c
      refine J_iload (pq := 104) dX9_burn_102 rfl rfl (J_aload_n (pq := 105) dX9_burn_104 rfl rfl (J_getI (pq := 108) dX9_burn_105 rfl f_X9_324 jsI (hK'.at rfl) (J_isub (pq := 109) dX9_burn_108 rfl (J_iret dX9_burn_109 rfl rfl ?_))))
      refine ⟨t, T, nI l, ?_, ?_⟩
      · rw [hh0, ← hk, hZ]; rfl
      · rw [hh0, ← hk, hZ]
    · rw [nI_leI (by omega) (by omega)] at c
      have hk : k < mRch h i (s i) f w := Nat.lt_of_not_le c
      have hfw := fw_le hf hn hk
      have hal := mAdr_lt (h := h) (s := s) (i := i) (Nat.lt_of_lt_of_le hk hn2) hs3
      have heA : 8 * nthg (mBad (tS g T (nI l)) i) (s i) (k / 8) 0 + k % 8 = mAdr h i (s i) k := by rw [eB]; rfl
      refine J_aload_n (pq := 51) dX9_burn_50 rfl rfl (J_iload_n (pq := 52) dX9_burn_51 rfl rfl (J_iload (pq := 54) dX9_burn_52 rfl rfl (J_virtF (pq := 57) dX9_burn_54 rfl (j_X9_addressOf hWg hi (by rw [eB]; omega)) rfl tg_X9_addressOf l_X9_210 vi_X9_addressOf (hK'.at rfl) ⟨by decide, rfl⟩ (Nat.le_of_ble_eq_true rfl) (Nat.zero_le _) (Nat.zero_le _) (Nat.le_of_ble_eq_true rfl) (?_))))
      rw [heA]
      have hfk : nI f + nI w * nI k = nI (f + w * k) := im_n f w k
      have hb2 : vp_in (nI f + nI w * nI k) 256 := vinN hfk (by omega) (by omega)
      have hx2 : ix (nI f + nI w * nI k) = f + w * k := by rw [hfk, ixn (by omega)]
      refine J_istore (pq := 59) dX9_burn_57 rfl (Nat.le_of_ble_eq_true rfl) (Nat.le_of_ble_eq_true rfl) rfl (J_aload_n (pq := 60) dX9_burn_59 rfl rfl (J_getA (pq := 63) dX9_burn_60 rfl f_X9_7 (by decide +kernel) (hK'.at rfl) (hR' _ _ rfl) (J_iload (pq := 65) dX9_burn_63 rfl rfl (J_iload (pq := 67) dX9_burn_65 rfl rfl (J_iload (pq := 69) dX9_burn_67 rfl rfl (J_imul (pq := 70) dX9_burn_69 rfl (J_iadd (pq := 71) dX9_burn_70 rfl (J_iald (pq := 72) dX9_burn_71 rfl (hK'.at rfl) (by assumption) (J_istore (pq := 74) dX9_burn_72 rfl (Nat.le_of_ble_eq_true rfl) (Nat.le_of_ble_eq_true rfl) rfl (?_))))))))))
      rw [hx2, eo 39 _ (by decide) (by decide) (by decide) (by decide) (by decide) (by decide), h39]
      have hRt : mRt i (mAdr h i (s i) k) (gi h 39 (f + w * k)) (tS g T (nI l)) = bnR h i (s i) f w k g := by
        unfold bnR mRt
        rw [tS_o (by decide) (by simp), tS_o (by decide) (by simp)]
      refine J_aload_n (pq := 75) dX9_burn_74 rfl rfl (J_iload_n (pq := 76) dX9_burn_75 rfl rfl (J_iload (pq := 78) dX9_burn_76 rfl rfl (J_iload (pq := 80) dX9_burn_78 rfl rfl (J_virtF (pq := 83) dX9_burn_80 rfl (j_X9_isWrong hK' hR' (by omega)) rfl tg_X9_isWrong l_X9_330 vi_X9_isWrong (hK'.at rfl) ⟨by decide, rfl⟩ (Nat.le_of_ble_eq_true rfl) (Nat.zero_le _) (Nat.zero_le _) (Nat.le_of_ble_eq_true rfl) (J_if_eq (pq := 86) (tgt := 96) dX9_burn_83 rfl rfl (fun c => ?_) (fun c => ?_))))))
      · rw [bi_0, mRt_n, hRt, Bool.not_eq_false'] at c
        refine J_iinc (pq := 99) dX9_burn_96 rfl c_iconst_1 rfl (Nat.le_of_ble_eq_true rfl) rfl (J_goto (tgt := 36) dX9_burn_99 rfl (?_))
        rw [nI_1]
        rw [if_pos c] at hstep
        refine J_weak (by simp [lsub]) rfl ?_ (ih (k + 1, T) (by simp only; omega) (by simp only; omega))
        simp only
        rw [hstep]
      · rw [bi_0, mRt_n, hRt, Bool.not_eq_false'] at c
        refine J_aload_n (pq := 87) dX9_burn_86 rfl rfl (J_iload_n (pq := 88) dX9_burn_87 rfl rfl (J_iload_n (pq := 89) dX9_burn_88 rfl rfl (J_iload (pq := 91) dX9_burn_89 rfl rfl (J_iload (pq := 93) dX9_burn_91 rfl rfl (J_virt (pq := 96) dX9_burn_93 rfl (j_X9_work q1 hr (by omega) hal (by omega) hM0 hO) rfl tg_X9_work l_X9_336 vi_X9_work (hK'.at rfl) ⟨by decide, rfl⟩ (Nat.le_of_ble_eq_true rfl) (Nat.zero_le _) (Nat.zero_le _) (Nat.le_of_ble_eq_true rfl) (fun v g hq => ?_))))))
        obtain ⟨rfl, T', rfl⟩ := hq
        refine J_iinc (pq := 99) dX9_burn_96 rfl c_iconst_1 rfl (Nat.le_of_ble_eq_true rfl) rfl (J_goto (tgt := 36) dX9_burn_99 rfl (?_))
        rw [nI_1]
        rw [if_neg c] at hstep
        refine J_weak (by simp [lsub]) rfl ?_ (ih (k + 1, T') (by simp only; omega) (by simp only; omega))
        simp only
        rw [hstep]
        rfl
end X6
