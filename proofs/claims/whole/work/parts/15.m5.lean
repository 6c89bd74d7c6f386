def erS (r : JH) (b : Nat) : JH := si (si (si (si r 54 b 255) 55 b 255) 57 b 0) 58 b (-1)
theorem er_step0 (h0 : JH) (lo k : Nat) : erS (rowN h0 lo k (fEr false)) (lo + k) = rowN h0 lo (k + 1) (fEr false) := by
  refine rowN_s _ _ _ _ _ rfl (fun a b => ?_)
  simp only [erS, gi_si, gi_rowN, fEr]
  by_cases hbb : b = lo + k
  · subst hbb
    simp
    by_cases h58 : a = 58
    · simp [h58]
    by_cases h57 : a = 57
    · simp [h57]
    by_cases h55 : a = 55
    · simp [h55]
    simp [h58, h57, h55]
  · simp [hbb]
theorem er_step1 (h0 : JH) (lo k : Nat) : si (erS (rowN h0 lo k (fEr true)) (lo + k)) 56 (lo + k) (gi (erS (rowN h0 lo k (fEr true)) (lo + k)) 56 (lo + k) + 1) = rowN h0 lo (k + 1) (fEr true) := by
  refine rowN_s _ _ _ _ _ rfl (fun a b => ?_)
  simp only [erS, gi_si, gi_rowN, fEr]
  by_cases hbb : b = lo + k
  · subst hbb
    simp
    by_cases h58 : a = 58
    · simp [h58]
    by_cases h57 : a = 57
    · simp [h57]
    by_cases h56 : a = 56
    · simp [h56]
    by_cases h55 : a = 55
    · simp [h55]
    simp [h58, h57, h56, h55]
  · simp [hbb]
section M5
variable {x : JX} {h : JH} {nc : Nat} {s : Nat → Nat}
theorem MW.of_si {o k : Nat} {v : Int32} (hW : MW h nc s) (h38 : ¬ (o = 38 ∧ k = 12)) (h44 : o ≠ 44) : MW (si h o k v) nc s := by
  obtain ⟨hK, hR, hc, hc4, hs⟩ := hW
  refine ⟨hK, hR, ?_, hc4, fun i hi => ?_⟩
  · rw [gi_si, if_neg (fun a => h38 ⟨a.1.symm, a.2.symm⟩)]; exact hc
  · rw [gi_si, if_neg (fun a => h44 a.1.symm)]; exact hs i hi
/-- five words are fed to the reference -/
def mFeed (h : JH) (a b c d e : Int32) : JH := mFour (mFour (mFour (mFour (mFour h a) b) c) d) e
theorem mFour_n {v : Int32} {n : Nat} (hn : gi h 38 2 = nI n) : gi (mFour h v) 38 2 = nI (n + 4) := by
  simp only [mFour, mAdd_n, hn, nI_1]
theorem j_X9_feed {a b c d e : Int32} {n : Nat} (hK : Kin h) (hR : MR h) (hn : gi h 38 2 = nI n) (hn4 : n ≤ 400) : JF x yX9_feed cX9_feed 6 (some .int) 1 0 0 [.ref 38, .int a, .int b, .int c, .int d, .int e] h (some (.int (if n ≤ 380 then nI (n + 20) else -1))) (if n ≤ 380 then mFeed h a b c d e else h) := by
  refine JM_of [some (.ref 38), some (.int a), some (.int b), some (.int c), some (.int d), some (.int e)] (by decide) (Nat.le_of_ble_eq_true rfl) rfl ?_
  have e20 : gi h 38 2 + 20 = nI (n + 20) := by rw [hn, show (20 : Int32) = nI 20 from rfl, nI_add]
  refine J_aload_n (pq := 1) dX9_feed_0 rfl rfl (J_getI (pq := 4) dX9_feed_1 rfl f_X9_130 jsI (hK.at rfl) (J_bipush (pq := 6) dX9_feed_4 rfl c_bipush_20 (J_iadd (pq := 7) dX9_feed_6 rfl (J_sipush (pq := 10) dX9_feed_7 rfl c_sipush_400 (J_icmp_le (pq := 13) (tgt := 15) dX9_feed_10 rfl rfl (fun c => ?_) (fun c => ?_))))))
  · rw [e20, show (400 : Int32) = nI 400 from rfl, nI_leI (by omega) (by omega)] at c
    have h0 := hn
    have h1 := fun v => mFour_n (v := v) hn
    have h2 := fun v w => mFour_n (v := v) (h1 w)
    have h3 := fun v w u => mFour_n (v := v) (h2 w u)
    have h4 := fun v w u t => mFour_n (v := v) (h3 w u t)
    have h5 := fun v w u t q => mFour_n (v := v) (h4 w u t q)
    refine J_aload_n (pq := 16) dX9_feed_15 rfl rfl (J_iload_n (pq := 17) dX9_feed_16 rfl rfl (J_virtF (pq := 20) dX9_feed_17 rfl (j_X9_four hK hR hn (by omega)) rfl tg_X9_four l_X9_133 vi_X9_four (hK.at rfl) ⟨by decide, rfl⟩ (Nat.le_of_ble_eq_true rfl) (Nat.zero_le _) (Nat.zero_le _) (Nat.le_of_ble_eq_true rfl) (J_aload_n (pq := 21) dX9_feed_20 rfl rfl (J_iload_n (pq := 22) dX9_feed_21 rfl rfl (J_virtF (pq := 25) dX9_feed_22 rfl (j_X9_four hK hR (h1 _) (by omega)) rfl tg_X9_four l_X9_133 vi_X9_four (hK.at rfl) ⟨by decide, rfl⟩ (Nat.le_of_ble_eq_true rfl) (Nat.zero_le _) (Nat.zero_le _) (Nat.le_of_ble_eq_true rfl) (J_aload_n (pq := 26) dX9_feed_25 rfl rfl (J_iload_n (pq := 27) dX9_feed_26 rfl rfl (J_virtF (pq := 30) dX9_feed_27 rfl (j_X9_four hK hR (h2 _ _) (by omega)) rfl tg_X9_four l_X9_133 vi_X9_four (hK.at rfl) ⟨by decide, rfl⟩ (Nat.le_of_ble_eq_true rfl) (Nat.zero_le _) (Nat.zero_le _) (Nat.le_of_ble_eq_true rfl) (J_aload_n (pq := 31) dX9_feed_30 rfl rfl (J_iload (pq := 33) dX9_feed_31 rfl rfl (J_virtF (pq := 36) dX9_feed_33 rfl (j_X9_four hK hR (h3 _ _ _) (by omega)) rfl tg_X9_four l_X9_133 vi_X9_four (hK.at rfl) ⟨by decide, rfl⟩ (Nat.le_of_ble_eq_true rfl) (Nat.zero_le _) (Nat.zero_le _) (Nat.le_of_ble_eq_true rfl) (J_aload_n (pq := 37) dX9_feed_36 rfl rfl (J_iload (pq := 39) dX9_feed_37 rfl rfl (J_virtF (pq := 42) dX9_feed_39 rfl (j_X9_four hK hR (h4 _ _ _ _) (by omega)) rfl tg_X9_four l_X9_133 vi_X9_four (hK.at rfl) ⟨by decide, rfl⟩ (Nat.le_of_ble_eq_true rfl) (Nat.zero_le _) (Nat.zero_le _) (Nat.le_of_ble_eq_true rfl) (J_aload_n (pq := 43) dX9_feed_42 rfl rfl (J_getI (pq := 46) dX9_feed_43 rfl f_X9_130 jsI (hK.at rfl) (J_iret dX9_feed_46 rfl rfl ?_)))))))))))))))))
    refine ⟨?_, ?_⟩
    · rw [h5, if_pos (by omega)]
    · rw [if_pos (by omega)]; rfl
  · rw [e20, show (400 : Int32) = nI 400 from rfl, nI_leI (by omega) (by omega)] at c
    refine J_iconst (pq := 14) dX9_feed_13 rfl c_iconst_m1 (J_iret dX9_feed_14 rfl rfl ?_)
    exact ⟨by rw [if_neg (by omega)], by rw [if_neg (by omega)]⟩
theorem j_X9_erase {v : Int32} (hW : MW h nc s) : JF x yX9_erase cX9_erase 3 (some .int) 2 0 0 [.ref 38, .int v] h (some (.int (if isin v 0 (gi h 38 12 - 1) && decide (¬ gi h 46 (ix v) = 0) then gi h 52 (ix v) + 1 else -1))) (if isin v 0 (gi h 38 12 - 1) && decide (¬ gi h 46 (ix v) = 0) then rowN (si h 52 (ix v) (gi h 52 (ix v) + 1)) (64 * ix v) 64 (fEr (decide (gi h 51 (ix v) < gi h 52 (ix v) + 1))) else h) := by
  have hW0 := hW
  obtain ⟨hK, hR, hc, hc4, hs⟩ := hW
  refine JM_of [some (.ref 38), some (.int v), none] (by decide) (Nat.le_of_ble_eq_true rfl) rfl ?_
  refine J_aload_n (pq := 1) dX9_erase_0 rfl rfl (J_iload_n (pq := 2) dX9_erase_1 rfl rfl (J_virtF (pq := 5) dX9_erase_2 rfl (j_X9_isChip hK) rfl tg_X9_isChip l_X9_199 vi_X9_isChip (hK.at rfl) ⟨by decide, rfl⟩ (Nat.le_of_ble_eq_true rfl) (Nat.zero_le _) (Nat.zero_le _) (Nat.le_of_ble_eq_true rfl) (J_if_eq (pq := 8) (tgt := 17) dX9_erase_5 rfl rfl (fun c => ?_) (fun c => ?_))))
  · rw [bi_0] at c
    refine J_iconst (pq := 18) dX9_erase_17 rfl c_iconst_m1 (J_iret dX9_erase_18 rfl rfl ?_)
    exact ⟨by rw [c]; rfl, by rw [c]; rfl⟩
  · rw [bi_0, Bool.not_eq_false] at c
    have c1 := c
    have c1' := c
    rw [hc, isinN (by omega)] at c1
    obtain ⟨i, hi, rfl⟩ := c1
    have hb1 : vp_in (nI i) 4 := vp_in_nI (by omega) (by omega)
    have hx1 : ix (nI i) = i := ixn (by omega)
    rw [hx1]
    refine J_aload_n (pq := 9) dX9_erase_8 rfl rfl (J_getA (pq := 12) dX9_erase_9 rfl f_X9_39 (by decide +kernel) (hK.at rfl) (hR _ _ rfl) (J_iload_n (pq := 13) dX9_erase_12 rfl rfl (J_zald (pq := 14) dX9_erase_13 rfl (hK.at rfl) (by assumption) (J_if_ne (pq := 17) (tgt := 19) dX9_erase_14 rfl rfl (fun c => ?_) (fun c => ?_)))))
    · rw [hx1] at c
      have hcnd : (isin (nI i) 0 (gi h 38 12 - 1) && decide (¬ gi h 46 i = 0)) = true := by rw [c1']; simp [c]
      rw [hcnd]
      refine J_aload_n (pq := 20) dX9_erase_19 rfl rfl (J_getA (pq := 23) dX9_erase_20 rfl f_X9_57 (by decide +kernel) (hK.at rfl) (hR _ _ rfl) (J_iload_n (pq := 24) dX9_erase_23 rfl rfl (J_dup2 (pq := 25) dX9_erase_24 rfl rfl rfl (J_iald (pq := 26) dX9_erase_25 rfl (hK.at rfl) (by assumption) (J_iconst (pq := 27) dX9_erase_26 rfl c_iconst_1 (J_iadd (pq := 28) dX9_erase_27 rfl (J_iast (pq := 29) dX9_erase_28 rfl (hK.at rfl) (by assumption) (J_bipush (pq := 31) dX9_erase_29 rfl c_bipush_64 (J_iload_n (pq := 32) dX9_erase_31 rfl rfl (J_imul (pq := 33) dX9_erase_32 rfl (J_istore_m 2 (pq := 34) dX9_erase_33 rfl rfl (Nat.le_of_ble_eq_true rfl) (Nat.le_of_ble_eq_true rfl) rfl (?_))))))))))))
      rw [hx1]
      generalize hh0 : si h 52 i (gi h 52 i + 1) = h0
      have hK0 : Kin h0 := by rw [← hh0]; exact hK
      have hR0 : MR h0 := by rw [← hh0]; exact hR
      have e52 : gi h0 52 i = gi h 52 i + 1 := by rw [← hh0]; simp [gi_si]
      have e51 : gi h0 51 i = gi h 51 i := by rw [← hh0]; simp [gi_si]
      generalize hinc : decide (gi h 51 i < gi h 52 i + 1) = inc
      refine J_loop (σ := Nat) (fun k => [some (.ref 38), some (.int (nI i)), some (.int (nI (64 * i + k)))]) (fun _ => []) (fun k => rowN h0 (64 * i) k (fEr inc)) (fun k => k ≤ 64) (fun k => 64 - k) 0 (by rw [im64]; rfl) rfl (rowN_0 _ _ _).symm (by omega) (fun k hk ih => ?_)
      have r52 : ∀ k, gi (rowN h0 (64 * i) k (fEr inc)) 52 i = gi h 52 i + 1 := fun k => by rw [gi_rowN, e52]; simp [fEr]
      have r51 : ∀ k, gi (rowN h0 (64 * i) k (fEr inc)) 51 i = gi h 51 i := fun k => by rw [gi_rowN, e51]; simp [fEr]
      refine J_iload_n (pq := 35) dX9_erase_34 rfl rfl (J_bipush (pq := 37) dX9_erase_35 rfl c_bipush_64 (J_iload_n (pq := 38) dX9_erase_37 rfl rfl (J_imul (pq := 39) dX9_erase_38 rfl (J_bipush (pq := 41) dX9_erase_39 rfl c_bipush_64 (J_iadd (pq := 42) dX9_erase_41 rfl (J_icmp_ge (pq := 45) (tgt := 108) dX9_erase_42 rfl rfl (fun c => ?_) (fun c => ?_)))))))
      · rw [c64, nI_leI (by omega) (by omega)] at c
        refine J_aload_n (pq := 109) dX9_erase_108 rfl rfl (J_getA (pq := 112) dX9_erase_109 rfl f_X9_57 (by decide +kernel) (hK0.at rfl) (hR0 _ _ rfl) (J_iload_n (pq := 113) dX9_erase_112 rfl rfl (J_iald (pq := 114) dX9_erase_113 rfl (hK0.at rfl) (by assumption) (J_iret dX9_erase_114 rfl rfl ?_))))
        have hk64 : k = 64 := by omega
        subst hk64
        refine ⟨?_, rfl⟩
        rw [hx1, r52]
        rfl
      · rw [c64, nI_leI (by omega) (by omega)] at c
        have hb : vp_in (nI (64 * i + k)) 256 := vp_in_nI (by omega) (by omega)
        have hx : ix (nI (64 * i + k)) = 64 * i + k := ixn (by omega)
        refine J_aload_n (pq := 46) dX9_erase_45 rfl rfl (J_getA (pq := 49) dX9_erase_46 rfl f_X9_64 (by decide +kernel) (hK0.at rfl) (hR0 _ _ rfl) (J_iload_n (pq := 50) dX9_erase_49 rfl rfl (J_sipush (pq := 53) dX9_erase_50 rfl c_sipush_255 (J_iast (pq := 54) dX9_erase_53 rfl (hK0.at rfl) (by assumption) (J_aload_n (pq := 55) dX9_erase_54 rfl rfl (J_getA (pq := 58) dX9_erase_55 rfl f_X9_67 (by decide +kernel) (hK0.at rfl) (hR0 _ _ rfl) (J_iload_n (pq := 59) dX9_erase_58 rfl rfl (J_sipush (pq := 62) dX9_erase_59 rfl c_sipush_255 (J_iast (pq := 63) dX9_erase_62 rfl (hK0.at rfl) (by assumption) (J_aload_n (pq := 64) dX9_erase_63 rfl rfl (J_getA (pq := 67) dX9_erase_64 rfl f_X9_73 (by decide +kernel) (hK0.at rfl) (hR0 _ _ rfl) (J_iload_n (pq := 68) dX9_erase_67 rfl rfl (J_iconst (pq := 69) dX9_erase_68 rfl c_iconst_0 (J_iast (pq := 70) dX9_erase_69 rfl (hK0.at rfl) (by assumption) (J_aload_n (pq := 71) dX9_erase_70 rfl rfl (J_getA (pq := 74) dX9_erase_71 rfl f_X9_76 (by decide +kernel) (hK0.at rfl) (hR0 _ _ rfl) (J_iload_n (pq := 75) dX9_erase_74 rfl rfl (J_iconst (pq := 76) dX9_erase_75 rfl c_iconst_m1 (J_iast (pq := 77) dX9_erase_76 rfl (hK0.at rfl) (by assumption) (J_aload_n (pq := 78) dX9_erase_77 rfl rfl (J_getA (pq := 81) dX9_erase_78 rfl f_X9_57 (by decide +kernel) (hK0.at rfl) (hR0 _ _ rfl) (J_iload_n (pq := 82) dX9_erase_81 rfl rfl (J_iald (pq := 83) dX9_erase_82 rfl (hK0.at rfl) (by assumption) (J_aload_n (pq := 84) dX9_erase_83 rfl rfl (J_getA (pq := 87) dX9_erase_84 rfl f_X9_54 (by decide +kernel) (hK0.at rfl) (hR0 _ _ rfl) (J_iload_n (pq := 88) dX9_erase_87 rfl rfl (J_iald (pq := 89) dX9_erase_88 rfl (hK0.at rfl) (by assumption) (J_icmp_le (pq := 92) (tgt := 102) dX9_erase_89 rfl rfl (fun c => ?_) (fun c => ?_)))))))))))))))))))))))))))))
        · simp only [gi_si, hx1] at c
          simp [r52, r51] at c
          have hinc0 : inc = false := by rw [← hinc]; simpa using c
          subst hinc0
          refine J_iinc (pq := 105) dX9_erase_102 rfl c_iconst_1 rfl (Nat.le_of_ble_eq_true rfl) rfl (J_goto (tgt := 34) dX9_erase_105 rfl (?_))
          refine J_eq ?_ rfl ?_ (ih (k + 1) (by omega) (by omega))
          · simp [nI_1, Nat.add_assoc]
          · rw [hx]
            exact er_step0 h0 (64 * i) k
        · simp only [gi_si, hx1] at c
          simp [r52, r51] at c
          have hinc1 : inc = true := by rw [← hinc]; simpa using c
          subst hinc1
          refine J_aload_n (pq := 93) dX9_erase_92 rfl rfl (J_getA (pq := 96) dX9_erase_93 rfl f_X9_70 (by decide +kernel) (hK0.at rfl) (hR0 _ _ rfl) (J_iload_n (pq := 97) dX9_erase_96 rfl rfl (J_dup2 (pq := 98) dX9_erase_97 rfl rfl rfl (J_iald (pq := 99) dX9_erase_98 rfl (hK0.at rfl) (by assumption) (J_iconst (pq := 100) dX9_erase_99 rfl c_iconst_1 (J_iadd (pq := 101) dX9_erase_100 rfl (J_iast (pq := 102) dX9_erase_101 rfl (hK0.at rfl) (by assumption) (J_iinc (pq := 105) dX9_erase_102 rfl c_iconst_1 rfl (Nat.le_of_ble_eq_true rfl) rfl (J_goto (tgt := 34) dX9_erase_105 rfl (?_))))))))))
          refine J_eq ?_ rfl ?_ (ih (k + 1) (by omega) (by omega))
          · simp [nI_1, Nat.add_assoc]
          · rw [hx]
            exact er_step1 h0 (64 * i) k
    · rw [hx1] at c
      refine J_iconst (pq := 18) dX9_erase_17 rfl c_iconst_m1 (J_iret dX9_erase_18 rfl rfl ?_)
      exact ⟨by simp [c], by simp [c]⟩
theorem im_n (f w k : Nat) : nI f + nI w * nI k = nI (f + w * k) := by rw [pk_mul, nI_add]
/-- the address of the k-th byte of chip i -/
def mAdr (h : JH) (i s k : Nat) : Nat := 8 * nthg (mBad h i) s (k / 8) 0 + k % 8
theorem mAdr_lt {i k : Nat} (hk : k < 8 * goodc (mBad h i) (s i)) (hs : s i ≤ 8) : mAdr h i (s i) k < 64 := by
  have := nthg_lt (mBad h i) (s i) (k / 8) 0 (by rw [goodr_c]; omega)
  unfold mAdr
  omega
def mRd (h : JH) (src i s f w : Nat) : Nat → JH
  | 0 => h
  | k + 1 => si (mRd h src i s f w k) 39 (f + w * k) (gi h src (64 * i + mAdr h i s k))
theorem mRd_2 (src i t f w : Nat) : ∀ k, (mRd h src i t f w k).2 = h.2
  | 0 => rfl
  | k + 1 => mRd_2 src i t f w k
theorem mRd_gi (src i t f w : Nat) {a : Nat} (ha : a ≠ 39) (b : Nat) : ∀ k, gi (mRd h src i t f w k) a b = gi h a b
  | 0 => rfl
  | k + 1 => by rw [mRd, gi_si, if_neg (fun q => ha q.1)]; exact mRd_gi src i t f w ha b k
theorem Kin.of2 {g : JH} (hK : Kin h) (e : g.2 = h.2) : Kin g := by
  obtain ⟨r, hr⟩ := hK
  exact ⟨r, by rw [← hr]; show g.2.2.2 = h.2.2.2; rw [e]⟩
theorem MR.of2 {g : JH} (hR : MR h) (e : g.2 = h.2) : MR g := fun k a hk => by
  show g.2.2.1 38 k = some a
  rw [e]
  exact hR k a hk
theorem MW.of {g : JH} (hW : MW h nc s) (e : g.2 = h.2) (e1 : gi g 38 12 = gi h 38 12) (e2 : ∀ i, i < nc → gi g 44 i = gi h 44 i) : MW g nc s := by
  obtain ⟨hK, hR, hc, hc4, hs⟩ := hW
  exact ⟨hK.of2 e, hR.of2 e, by rw [e1]; exact hc, hc4, fun i hi => by rw [e2 i hi]; exact hs i hi⟩
theorem mBad_of {g : JH} {i : Nat} (e : ∀ b, gi g 59 b = gi h 59 b) : mBad g i = mBad h i := by
  funext b
  unfold mBad
  rw [e]
theorem j_X9_read {i f w : Nat} {hi0 : Int32} (hW : MW h nc s) (hi : i < nc) (hf : f ≤ 255) (hw : 1 ≤ w ∧ w ≤ 8) : JF x yX9_read cX9_read 8 (some .int) 3 0 0 [.ref 38, .int (nI i), .int hi0, .int (nI f), .int (nI w)] h (some (.int (nI (min (8 * goodc (mBad h i) (s i)) ((255 - f) / w + 1))))) (mRd h (if hi0 = 0 then 54 else 55) i (s i) f w (min (8 * goodc (mBad h i) (s i)) ((255 - f) / w + 1))) := by
  have hW0 := hW
  obtain ⟨hK, hR, hc, hc4, hs⟩ := hW
  have hgl := goodc_le (mBad h i) (s i)
  have hs3 := (hs i hi).2.2
  generalize hn : min (8 * goodc (mBad h i) (s i)) ((255 - f) / w + 1) = n
  have hn1 : n ≤ 8 * goodc (mBad h i) (s i) := by rw [← hn]; exact Nat.min_le_left _ _
  have hn2 : n ≤ (255 - f) / w + 1 := by rw [← hn]; exact Nat.min_le_right _ _
  have hfw : ∀ k, k < n → f + w * k ≤ 255 := by
    intro k hk
    have h1 : k ≤ (255 - f) / w := by omega
    have h2 : w * k ≤ w * ((255 - f) / w) := Nat.mul_le_mul_left w h1
    have h3 : w * ((255 - f) / w) ≤ 255 - f := Nat.mul_div_le _ _
    omega
  refine JM_of [some (.ref 38), some (.int (nI i)), some (.int hi0), some (.int (nI f)), some (.int (nI w)), none, none, none] (by decide) (Nat.le_of_ble_eq_true rfl) rfl ?_
  have hchip : isin (nI i) 0 (gi h 38 12 - 1) = true := by rw [hc, isinN (by omega)]; exact ⟨i, hi, rfl⟩
  have hpart : (isin (nI f) 0 255 && isin (nI w) 1 8) = true := by
    rw [Bool.and_eq_true, isin_t, isin_t, nI_toInt (by omega), nI_toInt (by omega)]
    simp; omega
  refine J_aload_n (pq := 1) dX9_read_0 rfl rfl (J_iload_n (pq := 2) dX9_read_1 rfl rfl (J_virtF (pq := 5) dX9_read_2 rfl (j_X9_isChip hK) rfl tg_X9_isChip l_X9_199 vi_X9_isChip (hK.at rfl) ⟨by decide, rfl⟩ (Nat.le_of_ble_eq_true rfl) (Nat.zero_le _) (Nat.zero_le _) (Nat.le_of_ble_eq_true rfl) (J_if_eq (pq := 8) (tgt := 17) dX9_read_5 rfl rfl (fun c => ?_) (fun c => ?_))))
  · rw [hchip] at c; exact absurd c (by decide)
  · refine J_iload_n (pq := 9) dX9_read_8 rfl rfl (J_iload (pq := 11) dX9_read_9 rfl rfl (J_statF (pq := 14) dX9_read_11 rfl (j_X9_isPart) rfl tg_X9_isPart l_X9_317 st_X9_isPart (Nat.le_of_ble_eq_true rfl) (Nat.zero_le _) (Nat.zero_le _) (Nat.le_of_ble_eq_true rfl) (J_if_ne (pq := 17) (tgt := 19) dX9_read_14 rfl rfl (fun c => ?_) (fun c => ?_))))
    · refine J_aload_n (pq := 20) dX9_read_19 rfl rfl (J_iload_n (pq := 21) dX9_read_20 rfl rfl (J_iload_n (pq := 22) dX9_read_21 rfl rfl (J_iload (pq := 24) dX9_read_22 rfl rfl (J_virtF (pq := 27) dX9_read_24 rfl (j_X9_last hW0 hi hf hw) rfl tg_X9_last l_X9_314 vi_X9_last (hK.at rfl) ⟨by decide, rfl⟩ (Nat.le_of_ble_eq_true rfl) (Nat.zero_le _) (Nat.zero_le _) (Nat.le_of_ble_eq_true rfl) (J_istore (pq := 29) dX9_read_27 rfl (Nat.le_of_ble_eq_true rfl) (Nat.le_of_ble_eq_true rfl) rfl (J_iconst (pq := 30) dX9_read_29 rfl c_iconst_0 (J_istore (pq := 32) dX9_read_30 rfl (Nat.le_of_ble_eq_true rfl) (Nat.le_of_ble_eq_true rfl) rfl (?_))))))))
      rw [hn]
      refine J_loop (σ := Nat) (fun k => [some (.ref 38), some (.int (nI i)), some (.int hi0), some (.int (nI f)), some (.int (nI w)), some (.int (nI n)), some (.int (nI k)), none]) (fun _ => []) (fun k => mRd h (if hi0 = 0 then 54 else 55) i (s i) f w k) (fun k => k ≤ n) (fun k => n - k) 0 rfl rfl rfl (by omega) (fun k hp ih => ?_)
      generalize hg : mRd h (if hi0 = 0 then 54 else 55) i (s i) f w k = g
      have e2 : g.2 = h.2 := by rw [← hg]; exact mRd_2 _ _ _ _ _ _
      have eg : ∀ a, a ≠ 39 → ∀ b, gi g a b = gi h a b := fun a ha b => by rw [← hg]; exact mRd_gi _ _ _ _ _ ha b k
      have hWg : MW g nc s := hW0.of e2 (eg 38 (by decide) _) (fun j _ => eg 44 (by decide) _)
      have hKg : Kin g := hWg.1
      have hRg : MR g := hWg.2.1
      have hBg : mBad g i = mBad h i := mBad_of (eg 59 (by decide))
      refine J_iload (pq := 34) dX9_read_32 rfl rfl (J_iload (pq := 36) dX9_read_34 rfl rfl (J_icmp_ge (pq := 39) (tgt := 92) dX9_read_36 rfl rfl (fun c => ?_) (fun c => ?_)))
      · rw [nI_leI (by omega) (by omega)] at c
        refine J_iload (pq := 94) dX9_read_92 rfl rfl (J_iret dX9_read_94 rfl rfl ?_)
        have : k = n := by omega
        subst this
        exact ⟨rfl, hg.symm⟩
      · rw [nI_leI (by omega) (by omega)] at c
        have hkl : k < 8 * goodc (mBad h i) (s i) := by omega
        have hfwk := hfw k (by omega)
        have hal := mAdr_lt hkl hs3
        have hb1 : vp_in (nI f + nI w * nI k) 256 := vinN (im_n f w k) (by omega) (by omega)
        have hx1 : ix (nI f + nI w * nI k) = f + w * k := by rw [im_n, ixn (by omega)]
        have hadr : (64 : Int32) * nI i + nI (8 * nthg (mBad g i) (s i) (k / 8) 0 + k % 8) = nI (64 * i + mAdr h i (s i) k) := by rw [ia64, hBg]; rfl
        have hb2 : vp_in ((64 : Int32) * nI i + nI (8 * nthg (mBad g i) (s i) (k / 8) 0 + k % 8)) 256 := vinN hadr (by omega) (by omega)
        have hx2 : ix ((64 : Int32) * nI i + nI (8 * nthg (mBad g i) (s i) (k / 8) 0 + k % 8)) = 64 * i + mAdr h i (s i) k := by rw [hadr, ixn (by omega)]
        refine J_bipush (pq := 41) dX9_read_39 rfl c_bipush_64 (J_iload_n (pq := 42) dX9_read_41 rfl rfl (J_imul (pq := 43) dX9_read_42 rfl (J_aload_n (pq := 44) dX9_read_43 rfl rfl (J_iload_n (pq := 45) dX9_read_44 rfl rfl (J_iload (pq := 47) dX9_read_45 rfl rfl (J_virtF (pq := 50) dX9_read_47 rfl (j_X9_addressOf hWg hi (by rw [hBg]; exact hkl)) rfl tg_X9_addressOf l_X9_210 vi_X9_addressOf (hKg.at rfl) ⟨by decide, rfl⟩ (Nat.le_of_ble_eq_true rfl) (Nat.zero_le _) (Nat.zero_le _) (Nat.le_of_ble_eq_true rfl) (J_iadd (pq := 51) dX9_read_50 rfl (J_istore (pq := 53) dX9_read_51 rfl (Nat.le_of_ble_eq_true rfl) (Nat.le_of_ble_eq_true rfl) rfl (J_aload_n (pq := 54) dX9_read_53 rfl rfl (J_getA (pq := 57) dX9_read_54 rfl f_X9_7 (by decide +kernel) (hKg.at rfl) (hRg _ _ rfl) (J_iload_n (pq := 58) dX9_read_57 rfl rfl (J_iload (pq := 60) dX9_read_58 rfl rfl (J_iload (pq := 62) dX9_read_60 rfl rfl (J_imul (pq := 63) dX9_read_62 rfl (J_iadd (pq := 64) dX9_read_63 rfl (J_iload_n (pq := 65) dX9_read_64 rfl rfl (J_if_eq (pq := 68) (tgt := 78) dX9_read_65 rfl rfl (fun c => ?_) (fun c => ?_))))))))))))))))))
        · refine J_aload_n (pq := 79) dX9_read_78 rfl rfl (J_getA (pq := 82) dX9_read_79 rfl f_X9_64 (by decide +kernel) (hKg.at rfl) (hRg _ _ rfl) (J_iload (pq := 84) dX9_read_82 rfl rfl (J_iald (pq := 85) dX9_read_84 rfl (hKg.at rfl) (by assumption) (J_iast (pq := 86) dX9_read_85 rfl (hKg.at rfl) (by assumption) (J_iinc (pq := 89) dX9_read_86 rfl c_iconst_1 rfl (Nat.le_of_ble_eq_true rfl) rfl (J_goto (tgt := 32) dX9_read_89 rfl (?_)))))))
          refine J_weak ?_ rfl ?_ (ih (k + 1) (by omega) (by omega))
          · simp [nI_1, lsub]
          · simp only [mRd]
            rw [hg, hx1, hx2, eg 54 (by decide), if_pos c]
        · refine J_aload_n (pq := 69) dX9_read_68 rfl rfl (J_getA (pq := 72) dX9_read_69 rfl f_X9_67 (by decide +kernel) (hKg.at rfl) (hRg _ _ rfl) (J_iload (pq := 74) dX9_read_72 rfl rfl (J_iald (pq := 75) dX9_read_74 rfl (hKg.at rfl) (by assumption) (J_goto (tgt := 85) dX9_read_75 rfl (J_iast (pq := 86) dX9_read_85 rfl (hKg.at rfl) (by assumption) (J_iinc (pq := 89) dX9_read_86 rfl c_iconst_1 rfl (Nat.le_of_ble_eq_true rfl) rfl (J_goto (tgt := 32) dX9_read_89 rfl (?_))))))))
          refine J_weak ?_ rfl ?_ (ih (k + 1) (by omega) (by omega))
          · simp [nI_1, lsub]
          · simp only [mRd]
            rw [hg, hx1, hx2, eg 55 (by decide), if_neg c]
    · rw [hpart] at c; exact absurd c (by decide)
end M5
