-- the class: a recipe as a whole
section R5
variable {x : JX} {h : JH} {n d : Nat} {t : Nat → Int32}
/-- what the class holds of a recipe -/
def DRec (h : JH) (d : Nat) (tc : Cond) (e : Nat) : Prop := RKc h d e ∧ DS (gi h) d tc 0 e ∧ gi h d 5 = nI (tq tc 0) - 1 ∧ gi h d 6 = nI (min 1000000 (pP tc)) ∧ gi h d 7 = nI (min 1000000 (pW tc))
def RiP (t : Nat → Int32) (n d : Nat) (h : JH) (v : Option Value) (g : JH) : Prop := RcX d h g ∧ v = some (.int (bi (decide ((recS t n).1 = 0)))) ∧ gi g 4 0 = nI (recS t n).1 ∧ gi g 4 1 = (if (recS t n).1 = 0 then -1 else nI (recS t n).2.1) ∧ ((recS t n).1 = 0 → DRec g d (recS t n).2.2.1 (recS t n).2.2.2)
theorem prs_lt {f p e : Nat} {fs : List Fr} {cur : Cond} : (prs t n f p fs cur e).1 ≤ 3 := by
  induction f generalizing p fs cur e with
  | zero => simp [prs]
  | succ f ih =>
    unfold prs
    split
    · split <;> simp
    · split
      · rename_i r hr
        unfold pstep at hr
        repeat' split at hr
        all_goals first | (cases hr; simp) | (cases hr)
      · exact ih
set_option maxHeartbeats 1000000 in
theorem j_rcRead (hK : Kin h) (hX : XR h) (hR : RK h d) (hd1 : 13 ≤ d) (hd2 : d + 4 < 38) (hn : gi h 1 1 = nI n) (hn4 : n ≤ 400) (ht : gi h 2 = t) (hby : tby t) : JM x yX5_readInto cX5_readInto 4 (some .boolean) 14 0 0 [.ref 8, .ref d] h (RiP t n d h) := by
  refine JM_of [some (.ref 8), some (.ref d), none, none] (by decide) (Nat.le_of_ble_eq_true rfl) rfl ?_
  have hd0 := hR.1.1
  have hK1 : Kin (si (si h 4 0 0) 4 1 (-1)) := hK
  have hX1 : XR (si (si h 4 0 0) 4 1 (-1)) := hX
  have hF1 : RcX d h (si (si h 4 0 0) 4 1 (-1)) := ((RcX.rf d h).si (Or.inr (Or.inr (Or.inr (Or.inl ⟨rfl, by omega⟩))))).si (Or.inr (Or.inr (Or.inr (Or.inl ⟨rfl, by omega⟩))))
  have hn1 : gi (si (si h 4 0 0) 4 1 (-1)) 1 1 = nI n := by rw [gi_si, if_neg (by omega), gi_si, if_neg (by omega)]; exact hn
  refine J_aload_n (pq := 1) dX5_readInto_0 rfl rfl (J_getA (pq := 4) dX5_readInto_1 rfl f_X5_23 (by decide +kernel) (by first | exact hc0 | exact hd0 | exact hK.at rfl) (hX _ _ _ rfl) (J_virtF (pq := 7) dX5_readInto_4 rfl (j_start4 hK) rfl tg_X1_start l_X5_27 vi_X1_start (by first | exact hc0 | exact hd0 | exact hK.at rfl) ⟨by decide, rfl⟩ (Nat.le_of_ble_eq_true rfl) (Nat.zero_le _) (Nat.zero_le _) (Nat.le_of_ble_eq_true rfl) (?_)))
  refine J_aload_n (pq := 8) dX5_readInto_7 rfl rfl (J_getA (pq := 11) dX5_readInto_8 rfl f_X5_19 (by decide +kernel) (hK1.at rfl) (hX1 _ _ _ rfl) (J_virtF (pq := 14) dX5_readInto_11 rfl (j_X6_size hK1) rfl tg_X6_size l_X5_32 vi_X6_size (hK1.at rfl) ⟨by decide, rfl⟩ (Nat.le_of_ble_eq_true rfl) (Nat.zero_le _) (Nat.zero_le _) (Nat.le_of_ble_eq_true rfl) (J_sipush (pq := 17) dX5_readInto_14 rfl c_sipush_200 (J_icmp_le (pq := 20) (tgt := 33) dX5_readInto_17 rfl rfl (fun c => ?_) (fun c => ?_)))))
  rotate_left
  · rw [hn1, show (200 : Int32) = nI 200 from rfl, nI_leI (by omega) (by omega)] at c
    have hrs : recS t n = (1, 200, pN, 0) := by unfold recS; rw [if_neg c]
    refine J_aload_n (pq := 21) dX5_readInto_20 rfl rfl (J_getA (pq := 24) dX5_readInto_21 rfl f_X5_23 (by decide +kernel) (hK1.at rfl) (hX1 _ _ _ rfl) (J_iconst (pq := 25) dX5_readInto_24 rfl c_iconst_1 (J_sipush (pq := 28) dX5_readInto_25 rfl c_sipush_200 (J_virtF (pq := 31) dX5_readInto_28 rfl (j_mark hK1) rfl tg_X1_mark l_X5_38 vi_X1_mark (hK1.at rfl) ⟨by decide, rfl⟩ (Nat.le_of_ble_eq_true rfl) (Nat.zero_le _) (Nat.zero_le _) (Nat.le_of_ble_eq_true rfl) (J_iconst (pq := 32) dX5_readInto_31 rfl c_iconst_0 (J_iret dX5_readInto_32 rfl (by first | rfl | exact bi_nar _) ?_))))))
    unfold RiP
    rw [hrs]
    refine ⟨(hF1.si (Or.inr (Or.inr (Or.inr (Or.inl ⟨rfl, by omega⟩))))).si (Or.inr (Or.inr (Or.inr (Or.inl ⟨rfl, by omega⟩)))), rfl, ?_, ?_, fun q => by simp at q⟩
    · rw [gi_si, if_neg (by omega), gi_si, if_pos ⟨rfl, rfl⟩]; rfl
    · rw [gi_si, if_pos ⟨rfl, rfl⟩]; rfl
  rw [hn1, show (200 : Int32) = nI 200 from rfl, nI_leI (by omega) (by omega)] at c
  have hn200 := c
  have hrs : recS t n = prs t n (n + 1) 0 [] pN 0 := by unfold recS; rw [if_pos hn200]
  generalize hh2 : si (si (si (si (si h 4 0 0) 4 1 (-1)) d 4 0) 8 7 0) 8 4 0 = h2
  have hF2 : RcX d h h2 := by rw [← hh2]; exact ((hF1.si (Or.inr (Or.inr (Or.inr (Or.inr ⟨by omega, by omega⟩))))).si (Or.inl rfl)).si (Or.inl rfl)
  have o2 : ∀ a b, ¬ (a = 8 ∧ (b = 7 ∨ b = 4)) → ¬ (a = d ∧ b = 4) → ¬ (a = 4 ∧ b ≤ 1) → gi h2 a b = gi h a b := fun a b q1 q2 q3 => by
    rw [← hh2, gi_si, if_neg (by omega), gi_si, if_neg (by omega), gi_si, if_neg (by omega), gi_si, if_neg (by omega), gi_si, if_neg (by omega)]
  have hK2 : Kin h2 := hK.of2 hF2.1
  have hX2 : XR h2 := hX.of3 (by rw [hF2.1])
  have hn2 : gi h2 1 1 = nI n := by rw [o2 _ _ (by omega) (by omega) (by omega)]; exact hn
  have ht2 : gi h2 2 = t := by rw [← ht]; funext j; exact o2 _ _ (by omega) (by omega) (by omega)
  have g84 : gi h2 8 4 = nI 0 := by rw [← hh2, gi_si, if_pos ⟨rfl, rfl⟩]; rfl
  have g87 : gi h2 8 7 = nI 0 := by rw [← hh2, gi_si, if_neg (by omega), gi_si, if_pos ⟨rfl, rfl⟩]; rfl
  have gd4 : gi h2 d 4 = nI 0 := by rw [← hh2, gi_si, if_neg (by omega), gi_si, if_neg (by omega), gi_si, if_pos ⟨rfl, rfl⟩]; rfl
  have g40 : gi h2 4 0 = 0 := by rw [← hh2, gi_si, if_neg (by omega), gi_si, if_neg (by omega), gi_si, if_neg (by omega), gi_si, if_neg (by omega), gi_si, if_pos ⟨rfl, rfl⟩]
  have g41 : gi h2 4 1 = -1 := by rw [← hh2, gi_si, if_neg (by omega), gi_si, if_neg (by omega), gi_si, if_neg (by omega), gi_si, if_pos ⟨rfl, rfl⟩]
  have hKc : Kin (si (si (si h 4 0 0) 4 1 (-1)) d 4 0) := hK
  refine J_aload_n (pq := 34) dX5_readInto_33 rfl rfl (J_virtF (pq := 37) dX5_readInto_34 rfl (j_clear hR) rfl tg_X4_clear l_X5_42 vi_X4_clear hd0 ⟨by decide, rfl⟩ (Nat.le_of_ble_eq_true rfl) (Nat.zero_le _) (Nat.zero_le _) (Nat.le_of_ble_eq_true rfl) (?_))
  refine J_aload_n (pq := 38) dX5_readInto_37 rfl rfl (J_iconst (pq := 39) dX5_readInto_38 rfl c_iconst_0 (J_putI (pq := 42) dX5_readInto_39 rfl f_X5_47 (Or.inl rfl) (hKc.at rfl) (J_aload_n (pq := 43) dX5_readInto_42 rfl rfl (J_iconst (pq := 44) dX5_readInto_43 rfl c_iconst_0 (J_putI (pq := 47) dX5_readInto_44 rfl f_X5_51 (Or.inl rfl) (hKc.at rfl) (?_))))))
  rw [hh2]
  refine J_aload_n (pq := 48) dX5_readInto_47 rfl rfl (J_virtF (pq := 51) dX5_readInto_48 rfl (j_next (p := 0) hK2 hX2 hn2 (by omega) ht2 (Nat.zero_le _) g84) rfl tg_X5_nextToken l_X5_54 vi_X5_nextToken (hK2.at rfl) ⟨by decide, rfl⟩ (Nat.le_of_ble_eq_true rfl) (Nat.zero_le _) (Nat.zero_le _) (Nat.le_of_ble_eq_true rfl) (J_iconst (pq := 52) dX5_readInto_51 rfl c_iconst_1 (J_istore_m 2 (pq := 53) dX5_readInto_52 rfl rfl (Nat.le_of_ble_eq_true rfl) (Nat.le_of_ble_eq_true rfl) rfl (J_iconst (pq := 54) dX5_readInto_53 rfl c_iconst_0 (J_istore_m 3 (pq := 55) dX5_readInto_54 rfl rfl (Nat.le_of_ble_eq_true rfl) (Nat.le_of_ble_eq_true rfl) rfl (?_))))))
  have hP0 : XP (xTok h2 t n 0) t n 0 [] pN 0 d := by
    refine ⟨hK2.of2 (xTok_2 _ _ _ _), hX2.of3 (by rw [xTok_2]), ⟨hR.of3 (show (xTok h2 t n 0).2.2 = h.2.2 by rw [xTok_2, hF2.1]), ?_, by omega⟩, ?_, ?_, Nat.zero_le _, xTok_T, ?_, rfl, trivial, trivial, trivial, by simp, hd1, hd2⟩
    · rw [xTok_o (by omega)]; exact gd4
    · rw [xTok_o (by omega)]; exact hn2
    · rw [← ht2]; funext j; rw [xTok_o (by omega)]
    · rw [xTok_o (by omega)]; exact g87
  -- behind the loop
  have bad : ∀ g f pl k, RcX d h g → (recS t n).1 = f → (recS t n).2.1 = pl → f ≠ 0 → gi g 4 0 = nI f → gi g 4 1 = nI pl → J x yX5_readInto cX5_readInto 4 (some .boolean) 14 0 0 (RiP t n d h) 102 [some (.ref 8), some (.ref d), some (.int 0), some (.int (nI k))] [] g := fun g f pl k q1 q2 q3 q4 q5 q6 => by
    refine J_iload_n (pq := 103) dX5_readInto_102 rfl rfl (J_if_eq (pq := 106) (tgt := 119) dX5_readInto_103 rfl rfl (fun c => ?_) (fun c => ?_))
    · refine J_iload_n (pq := 120) dX5_readInto_119 rfl rfl (J_if_eq (pq := 123) (tgt := 127) dX5_readInto_120 rfl rfl (fun c => ?_) (fun c => ?_))
      · refine J_iload_n (pq := 128) dX5_readInto_127 rfl rfl (J_iret dX5_readInto_128 rfl (by first | rfl | exact bi_nar _) ?_)
        refine ⟨q1, ?_, by rw [q5, q2], ?_, fun q => absurd (q2.symm.trans q) q4⟩
        · rw [decide_eq_false (fun q => q4 (q2.symm.trans q))]; rfl
        · rw [if_neg (fun q => q4 (q2.symm.trans q)), q3]; exact q6
      · exact absurd rfl c
    · exact absurd rfl c
  have good : ∀ g p fs cur e k f, RcX d h g → gi g 4 0 = 0 → gi g 4 1 = -1 → XP g t n p fs cur e d → tkC t n p = 0 → prs t n (f + 1) p fs cur e = recS t n → J x yX5_readInto cX5_readInto 4 (some .boolean) 14 0 0 (RiP t n d h) 102 [some (.ref 8), some (.ref d), some (.int 1), some (.int (nI k))] [] g := fun g p fs cur e k f q1 q2 q3 q4 q5 q6 => by
    obtain ⟨hKg, hXg, hCg, hng, htg, hpg, hTg, h87, hZ, hFO, hPG, hPO, hl5, -, -⟩ := q4
    unfold prs at q6
    rw [if_pos q5] at q6
    refine J_iload_n (pq := 103) dX5_readInto_102 rfl rfl (J_if_eq (pq := 106) (tgt := 119) dX5_readInto_103 rfl rfl (fun c => ?_) (fun c => ?_))
    · exact absurd c (by decide)
    refine J_aload_n (pq := 107) dX5_readInto_106 rfl rfl (J_getI (pq := 110) dX5_readInto_107 rfl f_X5_47 jsI (hKg.at rfl) (J_if_le (pq := 113) (tgt := 119) dX5_readInto_110 rfl rfl (fun c => ?_) (fun c => ?_)))
    · rw [h87, show (0 : Int32) = nI 0 from rfl, nI_leI (by omega) (by omega)] at c
      have hfs : fs = [] := List.length_eq_zero_iff.mp (by omega)
      subst hfs
      simp only at q6
      have hPO5 : POK cur 5 := hPO
      have hDS : DS (gi g) d cur 0 e := hZ
      refine J_iload_n (pq := 120) dX5_readInto_119 rfl rfl (J_if_eq (pq := 123) (tgt := 127) dX5_readInto_120 rfl rfl (fun c => ?_) (fun c => ?_))
      · exact absurd c (by decide)
      refine J_aload_n (pq := 124) dX5_readInto_123 rfl rfl (J_virtF (pq := 127) dX5_readInto_124 rfl (j_measure hCg hPG hPO5 hDS) rfl tg_X4_measure l_X5_74 vi_X4_measure hCg.1.1.1 ⟨by decide, rfl⟩ (Nat.le_of_ble_eq_true rfl) (Nat.zero_le _) (Nat.zero_le _) (Nat.le_of_ble_eq_true rfl) (J_iload_n (pq := 128) dX5_readInto_127 rfl rfl (J_iret dX5_readInto_128 rfl (by first | rfl | exact bi_nar _) ?_)))
      have o : ∀ a b, ¬ (a = d ∧ 5 ≤ b ∧ b ≤ 7) → gi (si (si (si g d 5 (nI (tq cur 0) - 1)) d 6 (nI (min 1000000 (pP cur)))) d 7 (nI (min 1000000 (pW cur)))) a b = gi g a b := fun a b q => by rw [gi_si, if_neg (by omega), gi_si, if_neg (by omega), gi_si, if_neg (by omega)]
      unfold RiP
      rw [← q6]
      refine ⟨((q1.si (Or.inr (Or.inr (Or.inr (Or.inr ⟨by omega, by omega⟩))))).si (Or.inr (Or.inr (Or.inr (Or.inr ⟨by omega, by omega⟩))))).si (Or.inr (Or.inr (Or.inr (Or.inr ⟨by omega, by omega⟩)))), rfl, ?_, ?_, fun _ => ⟨?_, ?_, ?_, ?_, ?_⟩⟩
      · rw [o _ _ (by omega), q2]; rfl
      · rw [o _ _ (by omega), q3]; rfl
      · exact hCg.of3 rfl (o _ _ (by omega))
      · exact DS_congr cur hPG 0 e (fun j _ _ => ⟨o _ _ (by omega), o _ _ (by omega), o _ _ (by omega), o _ _ (by omega)⟩) hDS
      · rw [gi_si, if_neg (by omega), gi_si, if_neg (by omega), gi_si, if_pos ⟨rfl, rfl⟩]
      · rw [gi_si, if_neg (by omega), gi_si, if_pos ⟨rfl, rfl⟩]
      · rw [gi_si, if_pos ⟨rfl, rfl⟩]
    · rw [h87, show (0 : Int32) = nI 0 from rfl, nI_leI (by omega) (by omega)] at c
      cases fs with
      | nil => exfalso; simp at c
      | cons fr fs' =>
        simp only at q6
        refine J_aload_n (pq := 114) dX5_readInto_113 rfl rfl (J_iconst (pq := 115) dX5_readInto_114 rfl c_iconst_1 (J_virtF (pq := 118) dX5_readInto_115 rfl (j_refuse hKg hXg hTg) rfl tg_X5_refuse l_X5_71 vi_X5_refuse (hKg.at rfl) ⟨by decide, rfl⟩ (Nat.le_of_ble_eq_true rfl) (Nat.zero_le _) (Nat.zero_le _) (Nat.le_of_ble_eq_true rfl) (J_istore_m 2 (pq := 119) dX5_readInto_118 rfl rfl (Nat.le_of_ble_eq_true rfl) (Nat.le_of_ble_eq_true rfl) rfl (J_iload_n (pq := 120) dX5_readInto_119 rfl rfl (J_if_eq (pq := 123) (tgt := 127) dX5_readInto_120 rfl rfl (fun c => ?_) (fun c => ?_))))))
        rotate_left
        · exact absurd rfl c
        refine J_iload_n (pq := 128) dX5_readInto_127 rfl rfl (J_iret dX5_readInto_128 rfl (by first | rfl | exact bi_nar _) ?_)
        unfold RiP
        rw [← q6]
        refine ⟨(q1.si (Or.inr (Or.inr (Or.inr (Or.inl ⟨rfl, by omega⟩))))).si (Or.inr (Or.inr (Or.inr (Or.inl ⟨rfl, by omega⟩)))), rfl, ?_, ?_, fun q => by simp at q⟩
        · rw [gi_si, if_neg (by omega), gi_si, if_pos ⟨rfl, rfl⟩]; rfl
        · rw [gi_si, if_pos ⟨rfl, rfl⟩]; rfl
  refine J_loop (σ := JH × Nat × List Fr × Cond × Nat × Nat) (fun s => [some (.ref 8), some (.ref d), some (.int 1), some (.int (nI s.2.2.2.2.2))]) (fun _ => []) (fun s => s.1) (fun s => RcX d h s.1 ∧ gi s.1 4 0 = 0 ∧ gi s.1 4 1 = -1 ∧ XP s.1 t n s.2.1 s.2.2.1 s.2.2.2.1 s.2.2.2.2.1 d ∧ s.2.2.2.2.2 ≤ s.2.1 ∧ ∃ f, n - s.2.1 < f ∧ prs t n f s.2.1 s.2.2.1 s.2.2.2.1 s.2.2.2.2.1 = recS t n) (fun s => n - s.2.1) (xTok h2 t n 0, 0, [], pN, 0, 0) rfl rfl rfl ⟨hF2.tok t n 0, by rw [xTok_o (by omega)]; exact g40, by rw [xTok_o (by omega)]; exact g41, hP0, Nat.le_refl _, n + 1, by simp, hrs.symm⟩ (fun s hs ih => ?_)
  obtain ⟨g0, p, fs, cur, e, k⟩ := s
  obtain ⟨s1, s2, s3, s4, s5, f, s6, s7⟩ := hs
  simp only at s1 s2 s3 s4 s5 s6 s7 ih ⊢
  obtain ⟨f, rfl⟩ : ∃ f', f = f' + 1 := ⟨f - 1, by omega⟩
  have hP := s4
  obtain ⟨hKg, hXg, hCg, hng, htg, hpg, hTg, h87, hZ, hFO, hPG, hPO, hl5, -, -⟩ := s4
  obtain ⟨kk0, -, -, -, kk4, -, -⟩ := tkC_K (t := t) hpg (by omega) hby
  have hkl : tkK t n p < 5 := kb_lt _
  have hb := tkE_b (t := t) hpg
  refine J_iload_n (pq := 56) dX5_readInto_55 rfl rfl (J_sipush (pq := 59) dX5_readInto_56 rfl c_sipush_200 (J_icmp_ge (pq := 62) (tgt := 102) dX5_readInto_59 rfl rfl (fun c => ?_) (fun c => ?_)))
  · rw [show (200 : Int32) = nI 200 from rfl, nI_leI (by omega) (by omega)] at c
    have hpn : p = n := by omega
    have h0 : tkC t n p = 0 := by
      apply Decidable.byContradiction
      intro q
      have := hb.2.2.1 q
      omega
    exact good g0 p fs cur e k f s1 s2 s3 hP h0 s7
  refine J_iload_n (pq := 63) dX5_readInto_62 rfl rfl (J_if_eq (pq := 66) (tgt := 102) dX5_readInto_63 rfl rfl (fun c => ?_) (fun c => ?_))
  · exact absurd c (by decide)
  refine J_aload_n (pq := 67) dX5_readInto_66 rfl rfl (J_getI (pq := 70) dX5_readInto_67 rfl f_X5_57 jsI (hKg.at rfl) (J_if_eq (pq := 73) (tgt := 102) dX5_readInto_70 rfl rfl (fun c => ?_) (fun c => ?_)))
  · rw [hTg.1, show (0 : Int32) = nI 0 from rfl, nI_eq (by omega) (by omega), kk0] at c
    exact good g0 p fs cur e k f s1 s2 s3 hP c s7
  rw [hTg.1, show (0 : Int32) = nI 0 from rfl, nI_eq (by omega) (by omega), kk0] at c
  have c0 := c
  unfold prs at s7
  rw [if_neg c0] at s7
  -- behind a step
  have k95 : ∀ (v : Option Value) (g : JH), StX t n d (pstep t n p fs cur e) g0 v g → J x yX5_readInto cX5_readInto 4 (some .boolean) 14 0 0 (RiP t n d h) 95 [some (.ref 8), some (.ref d), some (.int 1), some (.int (nI k))] v.toList g := fun v g hS => by
    obtain ⟨hSF, hS⟩ := hS
    have hFg := s1.tr hSF
    cases hps : pstep t n p fs cur e with
    | inl r =>
      rw [hps] at hS s7
      simp only at hS s7
      obtain ⟨rfl, y1, y2⟩ := hS
      have hr0 : r.1 ≠ 0 := by
        unfold pstep at hps
        repeat' split at hps
        all_goals first | (cases hps; simp) | (cases hps)
      have e1 : (recS t n).1 = r.1 := by rw [← s7]
      have e2 : (recS t n).2.1 = r.2 := by rw [← s7]
      refine J_istore_m 2 (pq := 96) dX5_readInto_95 rfl rfl (Nat.le_of_ble_eq_true rfl) (Nat.le_of_ble_eq_true rfl) rfl (J_iinc (pq := 99) dX5_readInto_96 rfl c_iconst_1 rfl (Nat.le_of_ble_eq_true rfl) rfl (J_goto (tgt := 55) dX5_readInto_99 rfl (?_)))
      rw [nI_1]
      refine J_iload_n (pq := 56) dX5_readInto_55 rfl rfl (J_sipush (pq := 59) dX5_readInto_56 rfl c_sipush_200 (J_icmp_ge (pq := 62) (tgt := 102) dX5_readInto_59 rfl rfl (fun c => ?_) (fun c => ?_)))
      · exact bad g r.1 r.2 _ hFg e1 e2 hr0 y1 y2
      refine J_iload_n (pq := 63) dX5_readInto_62 rfl rfl (J_if_eq (pq := 66) (tgt := 102) dX5_readInto_63 rfl rfl (fun c => ?_) (fun c => ?_))
      · exact bad g r.1 r.2 _ hFg e1 e2 hr0 y1 y2
      · exact absurd rfl c
    | inr r =>
      rw [hps] at hS s7
      simp only at hS s7
      obtain ⟨rfl, y1, y2, y3⟩ := hS
      have hlt := pstep_lt hpg c0 hps
      refine J_istore_m 2 (pq := 96) dX5_readInto_95 rfl rfl (Nat.le_of_ble_eq_true rfl) (Nat.le_of_ble_eq_true rfl) rfl (J_iinc (pq := 99) dX5_readInto_96 rfl c_iconst_1 rfl (Nat.le_of_ble_eq_true rfl) rfl (J_goto (tgt := 55) dX5_readInto_99 rfl (?_)))
      rw [nI_1]
      exact ih (g, r.1, r.2.1, r.2.2.1, r.2.2.2, k + 1) ⟨hFg, y1.trans s2, y2.trans s3, y3, by simp only; omega, f, by simp only; omega, s7⟩ (by have := y3.2.2.2.2.2.1; simp only; omega)
  have hsg := j_isSign (x := x) (s := 125) hKg hXg hng (by omega) htg hpg hTg
  rw [sg_C (Or.inr (Or.inr rfl)) hpg (by omega) hby, show sgC 125 = 4 from rfl] at hsg
  refine J_aload_n (pq := 74) dX5_readInto_73 rfl rfl (J_bipush (pq := 76) dX5_readInto_74 rfl c_bipush_125 (J_virtF (pq := 79) dX5_readInto_76 rfl (hsg) rfl tg_X5_isSign l_X5_60 vi_X5_isSign (hKg.at rfl) ⟨by decide, rfl⟩ (Nat.le_of_ble_eq_true rfl) (Nat.zero_le _) (Nat.zero_le _) (Nat.le_of_ble_eq_true rfl) (J_if_eq (pq := 82) (tgt := 90) dX5_readInto_79 rfl rfl (fun c => ?_) (fun c => ?_))))
  · rw [bi_0, decide_eq_false_iff_not] at c
    refine J_aload_n (pq := 91) dX5_readInto_90 rfl rfl (J_aload_n (pq := 92) dX5_readInto_91 rfl rfl (J_virt (pq := 95) dX5_readInto_92 rfl (j_takeStep hn200 hby hP c) rfl tg_X5_takeStep l_X5_68 vi_X5_takeStep (hKg.at rfl) ⟨by decide, rfl⟩ (Nat.le_of_ble_eq_true rfl) (Nat.zero_le _) (Nat.zero_le _) (Nat.le_of_ble_eq_true rfl) (fun v g hq => ?_)))
    exact J_eq rfl (by cases v <;> rfl) rfl (k95 v g hq)
  · rw [bi_0, decide_eq_false_iff_not, Decidable.not_not] at c
    refine J_aload_n (pq := 83) dX5_readInto_82 rfl rfl (J_aload_n (pq := 84) dX5_readInto_83 rfl rfl (J_virt (pq := 87) dX5_readInto_84 rfl (j_takeClose hn200 hby hP c) rfl tg_X5_takeClosing l_X5_64 vi_X5_takeClosing (hKg.at rfl) ⟨by decide, rfl⟩ (Nat.le_of_ble_eq_true rfl) (Nat.zero_le _) (Nat.zero_le _) (Nat.le_of_ble_eq_true rfl) (fun v g hq => ?_)))
    refine J_goto (tgt := 95) dX5_readInto_87 rfl (?_)
    exact J_eq rfl (by cases v <;> rfl) rfl (k95 v g hq)
end R5
