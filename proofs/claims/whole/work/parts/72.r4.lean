-- the class: a block is closed; a whole recipe
theorem xTok_2 (h : JH) (t : Nat → Int32) (n p : Nat) : (xTok h t n p).2 = h.2 := rfl
theorem z01 : (0 : Int32) &&& 1 = 0 := by decide
section R4
variable {x : JX} {h : JH} {n p d e : Nat} {t : Nat → Int32} {fs : List Fr} {cur : Cond}
set_option maxHeartbeats 1000000 in
theorem j_takeClose (hn4 : n ≤ 200) (hby : tby t) (hP : XP h t n p fs cur e d) (hC4 : tkC t n p = 4) : JM x yX5_takeClosing cX5_takeClosing 3 (some .boolean) 6 0 0 [.ref 8, .ref d] h (StX t n d (pstep t n p fs cur e) h) := by
  have hP0 := hP
  obtain ⟨hK, hX, hC, hn, ht, hp, hT, h87, hZ, hFO, hPG, hPO, hl5, hd1, hd2⟩ := hP
  have he := hC.2.2
  have hd0 := hC.1.1.1
  have hb0 := tkE_b (t := t) hp
  have hb1 := tkE_b (t := t) (n := n) (p := tkE t n p) hb0.2.1
  have hb2 := tkE_b (t := t) (n := n) (p := tkE t n (tkE t n p)) hb1.2.1
  refine JM_of [some (.ref 8), some (.ref d), none] (by decide) (Nat.le_of_ble_eq_true rfl) rfl ?_
  cases fs with
  | nil =>
    refine J_aload_n (pq := 1) dX5_takeClosing_0 rfl rfl (J_getI (pq := 4) dX5_takeClosing_1 rfl f_X5_47 jsI (by first | exact hc0 | exact hd0 | exact hK.at rfl) (J_iconst (pq := 5) dX5_takeClosing_4 rfl c_iconst_1 (J_isub (pq := 6) dX5_takeClosing_5 rfl (J_istore_m 2 (pq := 7) dX5_takeClosing_6 rfl rfl (Nat.le_of_ble_eq_true rfl) (Nat.le_of_ble_eq_true rfl) rfl (J_iload_n (pq := 8) dX5_takeClosing_7 rfl rfl (J_iconst (pq := 9) dX5_takeClosing_8 rfl c_iconst_0 (J_iconst (pq := 10) dX5_takeClosing_9 rfl c_iconst_4 (J_statF (pq := 13) dX5_takeClosing_10 rfl (j_X8_isWithin) rfl tg_X8_isWithin l_X5_99 st_X8_isWithin (Nat.le_of_ble_eq_true rfl) (Nat.zero_le _) (Nat.zero_le _) (Nat.le_of_ble_eq_true rfl) (J_if_ne (pq := 16) (tgt := 22) dX5_takeClosing_13 rfl rfl (fun c => ?_) (fun c => ?_))))))))))
    · rw [h87] at c; exact absurd (by decide) c
    refine J_aload_n (pq := 17) dX5_takeClosing_16 rfl rfl (J_iconst (pq := 18) dX5_takeClosing_17 rfl c_iconst_1 (J_virtF (pq := 21) dX5_takeClosing_18 rfl (j_refuse hK hX hT) rfl tg_X5_refuse l_X5_71 vi_X5_refuse (by first | exact hc0 | exact hd0 | exact hK.at rfl) ⟨by decide, rfl⟩ (Nat.le_of_ble_eq_true rfl) (Nat.zero_le _) (Nat.zero_le _) (Nat.le_of_ble_eq_true rfl) (J_iret dX5_takeClosing_21 rfl (by first | rfl | exact bi_nar _) ?_)))
    exact StX_f (f := 1) (RcX.rf d h) (by unfold pstep; rw [if_pos hC4])
  | cons fr fs =>
    obtain ⟨acc, part, num, a⟩ := fr
    obtain ⟨i, z1, z2, z3, z4⟩ := hZ
    have hZ0 : DZ (gi h) d ((acc, part, num, a) :: fs) cur e := ⟨i, z1, z2, z3, z4⟩
    obtain ⟨f1, f2, f3, -, -, f6, f8, -⟩ := hFO
    rw [List.length_cons] at h87 hl5
    have hie : i < e := by
      rcases z4 with ⟨-, -, -, z⟩ | ⟨-, -, z⟩ | ⟨-, -, m, -, za, zb⟩
      · have := DS_le cur hPG _ _ z; omega
      · have := DS_le cur hPG _ _ z; omega
      · have := DS_le a f3 _ _ za; have := DS_le cur hPG _ _ zb; omega
    have hb5 : vp_in (nI fs.length) 5 := vp_in_nI (by omega) (by omega)
    have hxu : ix (nI fs.length) = fs.length := ixn (by omega)
    have hin : isin (nI fs.length) 0 4 = true := (isK (n := 4) (by omega)).mpr ⟨fs.length, by omega, rfl⟩
    generalize hG : xTok h t n (tkE t n p) = G
    have hGF : RcX d h G := by rw [← hG]; exact (RcX.rf d h).tok t n _
    have hGT : XT G t n (tkE t n p) := by rw [← hG]; exact xTok_T
    have hKG : Kin G := hK.of2 hGF.1
    have hXG : XR G := hX.of3 (by rw [hGF.1])
    have o : ∀ a b, ¬ (a = 8 ∧ 2 ≤ b ∧ b ≤ 4) → gi G a b = gi h a b := fun a b q => by rw [← hG]; exact xTok_o q
    have hCG : RKc G d e := hC.of3 (by rw [hGF.1]) (o _ _ (by omega))
    have hnG : gi G 1 1 = nI n := by rw [o _ _ (by omega)]; exact hn
    have htG : gi G 2 = t := by rw [← ht]; funext j; exact o _ _ (by omega)
    have g87 : gi G 8 7 = nI (fs.length + 1) := by rw [o _ _ (by omega)]; exact h87
    have g9 : gi G 9 fs.length = nI i := by rw [o _ _ (by omega)]; exact z2
    have g10 : gi G 10 fs.length = bi (decide (part = 1)) := by rw [o _ _ (by omega)]; exact z3
    refine J_aload_n (pq := 1) dX5_takeClosing_0 rfl rfl (J_getI (pq := 4) dX5_takeClosing_1 rfl f_X5_47 jsI (by first | exact hc0 | exact hd0 | exact hK.at rfl) (J_iconst (pq := 5) dX5_takeClosing_4 rfl c_iconst_1 (?_)))
    rw [h87]
    refine J_isub (pq := 6) dX5_takeClosing_5 rfl (J_istore_m 2 (pq := 7) dX5_takeClosing_6 rfl rfl (Nat.le_of_ble_eq_true rfl) (Nat.le_of_ble_eq_true rfl) rfl (J_iload_n (pq := 8) dX5_takeClosing_7 rfl rfl (J_iconst (pq := 9) dX5_takeClosing_8 rfl c_iconst_0 (J_iconst (pq := 10) dX5_takeClosing_9 rfl c_iconst_4 (?_)))))
    rw [nI_pred]
    refine J_statF (pq := 13) dX5_takeClosing_10 rfl (j_X8_isWithin) rfl tg_X8_isWithin l_X5_99 st_X8_isWithin (Nat.le_of_ble_eq_true rfl) (Nat.zero_le _) (Nat.zero_le _) (Nat.le_of_ble_eq_true rfl) (J_if_ne (pq := 16) (tgt := 22) dX5_takeClosing_13 rfl rfl (fun c => ?_) (fun c => ?_))
    rotate_left
    · rw [hin] at c; exact absurd c (by decide)
    refine J_aload_n (pq := 23) dX5_takeClosing_22 rfl rfl (J_virtF (pq := 26) dX5_takeClosing_23 rfl (j_next hK hX hn (by omega) ht hb0.2.1 hT.2.2) rfl tg_X5_nextToken l_X5_54 vi_X5_nextToken (by first | exact hc0 | exact hd0 | exact hK.at rfl) ⟨by decide, rfl⟩ (Nat.le_of_ble_eq_true rfl) (Nat.zero_le _) (Nat.zero_le _) (Nat.le_of_ble_eq_true rfl) (?_))
    rw [hG]
    refine J_aload_n (pq := 27) dX5_takeClosing_26 rfl rfl (J_getA (pq := 30) dX5_takeClosing_27 rfl f_X5_15 (by decide +kernel) (hKG.at rfl) (hXG _ _ _ rfl) (J_iload_n (pq := 31) dX5_takeClosing_30 rfl rfl (J_zald (pq := 32) dX5_takeClosing_31 rfl (hKG.at rfl) (by assumption) (J_if_ne (pq := 35) (tgt := 57) dX5_takeClosing_32 rfl rfl (fun c => ?_) (fun c => ?_)))))
    · rw [hxu, g10, bi_0, decide_eq_false_iff_not, Decidable.not_not] at c
      have hp1 := c
      have hEl := j_isElse (x := x) (k := 0) rfl hKG hXG hnG (by omega) htG hby hb0.2.1 hGT
      refine J_aload_n (pq := 58) dX5_takeClosing_57 rfl rfl (?_)
      refine J_ldcS (k := 0) (tx := "else") (pq := 60) dX5_takeClosing_58 rfl rfl (by decide +kernel) ?_
      refine J_virtF (pq := 63) dX5_takeClosing_60 rfl (hEl) rfl tg_X5_isWord l_X5_109 vi_X5_isWord (hKG.at rfl) ⟨by decide, rfl⟩ (Nat.le_of_ble_eq_true rfl) (Nat.zero_le _) (Nat.zero_le _) (Nat.le_of_ble_eq_true rfl) (J_if_ne (pq := 66) (tgt := 72) dX5_takeClosing_63 rfl rfl (fun c => ?_) (fun c => ?_))
      rotate_left
      · rw [bi_0, decide_eq_false_iff_not] at c
        refine J_aload_n (pq := 67) dX5_takeClosing_66 rfl rfl (J_iconst (pq := 68) dX5_takeClosing_67 rfl c_iconst_1 (J_virtF (pq := 71) dX5_takeClosing_68 rfl (j_refuse hKG hXG hGT) rfl tg_X5_refuse l_X5_71 vi_X5_refuse (hKG.at rfl) ⟨by decide, rfl⟩ (Nat.le_of_ble_eq_true rfl) (Nat.zero_le _) (Nat.zero_le _) (Nat.le_of_ble_eq_true rfl) (J_iret dX5_takeClosing_71 rfl (by first | rfl | exact bi_nar _) ?_)))
        exact StX_f (f := 1) hGF (by unfold pstep; rw [if_pos hC4]; simp only; rw [if_neg (by omega), if_pos hp1, if_neg c])
      rw [bi_0, decide_eq_false_iff_not, Decidable.not_not] at c
      have c11 := c
      generalize hG2 : si (si (xTok G t n (tkE t n (tkE t n p))) 10 fs.length 0) (d + 3) i (nI e) = G2
      have hF2 : RcX d h G2 := by rw [← hG2]; exact ((hGF.tok t n _).si (Or.inr (Or.inr (Or.inl rfl)))).si (Or.inr (Or.inr (Or.inr (Or.inr ⟨by omega, by omega⟩))))
      have o2 : ∀ a b, ¬ (a = 8 ∧ 2 ≤ b ∧ b ≤ 4) → ¬ (a = 10 ∧ b = fs.length) → ¬ (a = d + 3 ∧ b = i) → gi G2 a b = gi G a b := fun a b q1 q2 q3 => by rw [← hG2, gi_si, if_neg q3, gi_si, if_neg q2, xTok_o q1]
      have hT2 : XT G2 t n (tkE t n (tkE t n p)) := by
        rw [← hG2]
        exact ⟨by rw [gi_si, if_neg (by omega), gi_si, if_neg (by omega)]; exact xTok_T.1, by rw [gi_si, if_neg (by omega), gi_si, if_neg (by omega)]; exact xTok_T.2.1, by rw [gi_si, if_neg (by omega), gi_si, if_neg (by omega)]; exact xTok_T.2.2⟩
      have hK2 : Kin G2 := hK.of2 hF2.1
      have hX2 : XR G2 := hX.of3 (by rw [hF2.1])
      have hn2 : gi G2 1 1 = nI n := by rw [o2 _ _ (by omega) (by omega) (by omega)]; exact hnG
      have ht2 : gi G2 2 = t := by rw [← htG]; funext j; exact o2 _ _ (by omega) (by omega) (by omega)
      have hKT : Kin (xTok G t n (tkE t n (tkE t n p))) := hKG.of2 (xTok_2 _ _ _ _)
      have hXT : XR (xTok G t n (tkE t n (tkE t n p))) := hXG.of3 (by rw [xTok_2])
      have hKT2 : Kin (si (xTok G t n (tkE t n (tkE t n p))) 10 fs.length 0) := hKT.of2 rfl
      have hXT2 : XR (si (xTok G t n (tkE t n (tkE t n p))) 10 fs.length 0) := hXT.of3 rfl
      have hCT2 : RKc (si (xTok G t n (tkE t n (tkE t n p))) 10 fs.length 0) d e := hCG.of3 (show (xTok G t n (tkE t n (tkE t n p))).2.2 = G.2.2 by rw [xTok_2]) (by rw [gi_si, if_neg (by omega), xTok_o (by omega)])
      have hsg := j_takeSign (x := x) (s := 123) (Or.inr (Or.inl rfl)) hK2 hX2 hn2 (by omega) ht2 hby hb1.2.1 hT2
      rw [show sgC 123 = 3 from rfl] at hsg
      refine J_aload_n (pq := 73) dX5_takeClosing_72 rfl rfl (J_virtF (pq := 76) dX5_takeClosing_73 rfl (j_next hKG hXG hnG (by omega) htG hb1.2.1 hGT.2.2) rfl tg_X5_nextToken l_X5_54 vi_X5_nextToken (hKG.at rfl) ⟨by decide, rfl⟩ (Nat.le_of_ble_eq_true rfl) (Nat.zero_le _) (Nat.zero_le _) (Nat.le_of_ble_eq_true rfl) (?_))
      refine J_aload_n (pq := 77) dX5_takeClosing_76 rfl rfl (J_getA (pq := 80) dX5_takeClosing_77 rfl f_X5_15 (by decide +kernel) (hKT.at rfl) (hXT _ _ _ rfl) (J_iload_n (pq := 81) dX5_takeClosing_80 rfl rfl (J_iconst (pq := 82) dX5_takeClosing_81 rfl c_iconst_0 (J_zast (pq := 83) dX5_takeClosing_82 rfl (hKT.at rfl) (by assumption) (?_)))))
      rw [hxu, z01]
      refine J_aload_n (pq := 84) dX5_takeClosing_83 rfl rfl (J_aload_n (pq := 85) dX5_takeClosing_84 rfl rfl (J_getA (pq := 88) dX5_takeClosing_85 rfl f_X5_9 (by decide +kernel) (hKT2.at rfl) (hXT2 _ _ _ rfl) (J_iload_n (pq := 89) dX5_takeClosing_88 rfl rfl (J_iald (pq := 90) dX5_takeClosing_89 rfl (hKT2.at rfl) (by assumption) (?_)))))
      rw [hxu, gi_si, if_neg (by omega), xTok_o (by omega), g9]
      refine J_virtF (pq := 93) dX5_takeClosing_90 rfl (j_startElse hCT2 hie) rfl tg_X4_startOtherwise l_X5_113 vi_X4_startOtherwise hCT2.1.1.1 ⟨by decide, rfl⟩ (Nat.le_of_ble_eq_true rfl) (Nat.zero_le _) (Nat.zero_le _) (Nat.le_of_ble_eq_true rfl) (?_)
      rw [hG2]
      by_cases hc3 : tkC t n (tkE t n (tkE t n p)) = 3
      · rw [if_pos hc3, decide_eq_true hc3] at hsg
        refine J_aload_n (pq := 94) dX5_takeClosing_93 rfl rfl (J_bipush (pq := 96) dX5_takeClosing_94 rfl c_bipush_123 (J_virtF (pq := 99) dX5_takeClosing_96 rfl (hsg) rfl tg_X5_takeSign l_X5_92 vi_X5_takeSign (hK2.at rfl) ⟨by decide, rfl⟩ (Nat.le_of_ble_eq_true rfl) (Nat.zero_le _) (Nat.zero_le _) (Nat.le_of_ble_eq_true rfl) (J_iret dX5_takeClosing_99 rfl (by first | rfl | exact bi_nar _) ?_)))
        have hps : pstep t n p ((acc, part, num, a) :: fs) cur e = .inr (tkE t n (tkE t n (tkE t n p)), (acc, 2, 0, cur) :: fs, pN, e) := by
          unfold pstep; rw [if_pos hC4]; simp only; rw [if_neg (by omega), if_pos hp1, if_pos c11, if_pos hc3]
        have o3 : ∀ a b, ¬ (a = 8 ∧ 2 ≤ b ∧ b ≤ 4) → ¬ (a = 10 ∧ b = fs.length) → ¬ (a = d + 3 ∧ b = i) → gi (xTok G2 t n (tkE t n (tkE t n (tkE t n p)))) a b = gi h a b := fun a b q1 q2 q3 => by rw [xTok_o q1, o2 a b q1 q2 q3, o a b q1]
        rcases z4 with ⟨q, -⟩ | ⟨-, y2, y3⟩ | ⟨q, -⟩
        · omega
        rotate_left
        · omega
        have hez := DZ_e fs acc i f1 f2 z1
        have hDZ : DZ (gi (xTok G2 t n (tkE t n (tkE t n (tkE t n p))))) d ((acc, 2, 0, cur) :: fs) pN e := by
          refine ⟨i, DZ_congr fs acc i f1 f2 (fun j hj => ⟨o3 _ _ (by omega) (by omega) (by omega), o3 _ _ (by omega) (by omega) (by omega), o3 _ _ (by omega) (by omega) (by omega), o3 _ _ (by omega) (by omega) (by omega)⟩) (fun u hu => ⟨o3 _ _ (by omega) (by omega) (by omega), o3 _ _ (by omega) (by omega) (by omega)⟩) z1, by rw [o3 _ _ (by omega) (by omega) (by omega)]; exact z2, ?_, Or.inr (Or.inr ⟨rfl, by rw [o3 _ _ (by omega) (by omega) (by omega)]; exact y2, e, ?_, DS_congr cur hPG _ _ (fun j hj _ => ⟨o3 _ _ (by omega) (by omega) (by omega), o3 _ _ (by omega) (by omega) (by omega), o3 _ _ (by omega) (by omega) (by omega), o3 _ _ (by omega) (by omega) (by omega)⟩) y3, rfl⟩)⟩
          · rw [xTok_o (by omega), ← hG2, gi_si, if_neg (by omega), gi_si, if_pos ⟨rfl, rfl⟩]; rfl
          · rw [xTok_o (by omega), ← hG2, gi_si, if_pos ⟨rfl, rfl⟩]
        have hXP := XP_new hP0 hps (hF2.tok t n _) (by rw [o3 _ _ (by omega) (by omega) (by omega)]; exact hC.2.1) hb2.2.1 xTok_T (by rw [o3 _ _ (by omega) (by omega) (by omega)]; exact h87) hDZ
        rw [hps]
        exact ⟨hF2.tok t n _, rfl, o3 _ _ (by omega) (by omega) (by omega), o3 _ _ (by omega) (by omega) (by omega), hXP⟩
      · rw [if_neg hc3, decide_eq_false hc3] at hsg
        refine J_aload_n (pq := 94) dX5_takeClosing_93 rfl rfl (J_bipush (pq := 96) dX5_takeClosing_94 rfl c_bipush_123 (J_virtF (pq := 99) dX5_takeClosing_96 rfl (hsg) rfl tg_X5_takeSign l_X5_92 vi_X5_takeSign (hK2.at rfl) ⟨by decide, rfl⟩ (Nat.le_of_ble_eq_true rfl) (Nat.zero_le _) (Nat.zero_le _) (Nat.le_of_ble_eq_true rfl) (J_iret dX5_takeClosing_99 rfl (by first | rfl | exact bi_nar _) ?_)))
        exact StX_f (f := 1) hF2 (by unfold pstep; rw [if_pos hC4]; simp only; rw [if_neg (by omega), if_pos hp1, if_pos c11, if_neg hc3])
    · rw [hxu, g10, bi_0, decide_eq_false_iff_not] at c
      have hp1 := c
      refine J_aload_n (pq := 36) dX5_takeClosing_35 rfl rfl (J_aload_n (pq := 37) dX5_takeClosing_36 rfl rfl (J_getA (pq := 40) dX5_takeClosing_37 rfl f_X5_9 (by decide +kernel) (hKG.at rfl) (hXG _ _ _ rfl) (J_iload_n (pq := 41) dX5_takeClosing_40 rfl rfl (J_iald (pq := 42) dX5_takeClosing_41 rfl (hKG.at rfl) (by assumption) (?_)))))
      rw [hxu, g9]
      refine J_virtF (pq := 45) dX5_takeClosing_42 rfl (j_close hCG hie) rfl tg_X4_close l_X5_103 vi_X4_close hCG.1.1.1 ⟨by decide, rfl⟩ (Nat.le_of_ble_eq_true rfl) (Nat.zero_le _) (Nat.zero_le _) (Nat.le_of_ble_eq_true rfl) (?_)
      have hK3 : Kin (si G (d + 4) i (nI e)) := hKG
      refine J_aload_n (pq := 46) dX5_takeClosing_45 rfl rfl (J_dup (pq := 47) dX5_takeClosing_46 rfl rfl (J_getI (pq := 50) dX5_takeClosing_47 rfl f_X5_47 jsI (hK3.at rfl) (?_)))
      rw [gi_si, if_neg (by omega), g87]
      refine J_iconst (pq := 51) dX5_takeClosing_50 rfl c_iconst_1 (J_isub (pq := 52) dX5_takeClosing_51 rfl (?_))
      rw [nI_pred]
      refine J_putI (pq := 55) dX5_takeClosing_52 rfl f_X5_47 (Or.inl rfl) (hK3.at rfl) (J_iconst (pq := 56) dX5_takeClosing_55 rfl c_iconst_1 (J_iret dX5_takeClosing_56 rfl (by first | rfl | exact bi_nar _) ?_))
      have hF3 : RcX d h (si (si G (d + 4) i (nI e)) 8 7 (nI fs.length)) := (hGF.si (Or.inr (Or.inr (Or.inr (Or.inr ⟨by omega, by omega⟩))))).si (Or.inl rfl)
      have o3 : ∀ a b, ¬ (a = 8 ∧ 2 ≤ b ∧ b ≤ 7) → ¬ (a = d + 4 ∧ b = i) → gi (si (si G (d + 4) i (nI e)) 8 7 (nI fs.length)) a b = gi h a b := fun a b q1 q2 => by rw [gi_si, if_neg (by omega), gi_si, if_neg q2, o a b (by omega)]
      have o4 : gi (si (si G (d + 4) i (nI e)) 8 7 (nI fs.length)) (d + 4) i = nI e := by rw [gi_si, if_neg (by omega), gi_si, if_pos ⟨rfl, rfl⟩]
      have hT3 : XT (si (si G (d + 4) i (nI e)) 8 7 (nI fs.length)) t n (tkE t n p) := ⟨by rw [gi_si, if_neg (by omega), gi_si, if_neg (by omega)]; exact hGT.1, by rw [gi_si, if_neg (by omega), gi_si, if_neg (by omega)]; exact hGT.2.1, by rw [gi_si, if_neg (by omega), gi_si, if_neg (by omega)]; exact hGT.2.2⟩
      have hDo : DZ (gi (si (si G (d + 4) i (nI e)) 8 7 (nI fs.length))) d fs acc i := DZ_congr fs acc i f1 f2 (fun j hj => ⟨o3 _ _ (by omega) (by omega), o3 _ _ (by omega) (by omega), o3 _ _ (by omega) (by omega), o3 _ _ (by omega) (by omega)⟩) (fun u hu => ⟨o3 _ _ (by omega) (by omega), o3 _ _ (by omega) (by omega)⟩) z1
      have fin : ∀ q, pstep t n p ((acc, part, num, a) :: fs) cur e = .inr (tkE t n p, fs, papp acc q, e) → DS (gi (si (si G (d + 4) i (nI e)) 8 7 (nI fs.length))) d q i e → StX t n d (pstep t n p ((acc, part, num, a) :: fs) cur e) h (some (.int 1)) (si (si G (d + 4) i (nI e)) 8 7 (nI fs.length)) := fun q hps hq => by
        have hXP := XP_new hP0 hps hF3 (by rw [o3 _ _ (by omega) (by omega)]; exact hC.2.1) hb0.2.1 hT3 (by rw [gi_si, if_pos ⟨rfl, rfl⟩]) (DZ_app fs acc f1 f2 hDo hq)
        rw [hps]
        exact ⟨hF3, rfl, o3 _ _ (by omega) (by omega), o3 _ _ (by omega) (by omega), hXP⟩
      rcases z4 with ⟨y1, y2, y3, y4⟩ | ⟨q, -⟩ | ⟨y1, y2, m, y3, y4, y5⟩
      · refine fin (pT num cur pN) (by unfold pstep; rw [if_pos hC4]; simp only; rw [if_pos y1]) ⟨e, by rw [o3 _ _ (by omega) (by omega)]; exact y2, by rw [o3 _ _ (by omega) (by omega)]; exact y3, o4, DS_congr cur hPG _ _ (fun j hj _ => ⟨o3 _ _ (by omega) (by omega), o3 _ _ (by omega) (by omega), o3 _ _ (by omega) (by omega), o3 _ _ (by omega) (by omega)⟩) y4, rfl⟩
      · exact absurd q hp1
      · have hm1 := DS_le a f3 _ _ y4
        refine fin (pO a cur pN) (by unfold pstep; rw [if_pos hC4]; simp only; rw [if_neg (by omega), if_neg hp1]) ⟨m, e, by rw [o3 _ _ (by omega) (by omega)]; exact y2, by rw [o3 _ _ (by omega) (by omega)]; exact y3, o4, DS_congr a f3 _ _ (fun j hj _ => ⟨o3 _ _ (by omega) (by omega), o3 _ _ (by omega) (by omega), o3 _ _ (by omega) (by omega), o3 _ _ (by omega) (by omega)⟩) y4, DS_congr cur hPG _ _ (fun j hj _ => ⟨o3 _ _ (by omega) (by omega), o3 _ _ (by omega) (by omega), o3 _ _ (by omega) (by omega), o3 _ _ (by omega) (by omega)⟩) y5, rfl⟩
end R4
