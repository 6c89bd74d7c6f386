-- the class: the parts of a step
section R2
variable {x : JX} {h : JH} {n p d e : Nat} {t : Nat → Int32}
theorem j_refuse {f : Int32} (hK : Kin h) (hX : XR h) (hT : XT h t n p) : JF x yX5_refuse cX5_refuse 2 (some .boolean) 1 0 0 [.ref 8, .int f] h (some (.int 0)) (si (si h 4 0 f) 4 1 (nI (tkQ t n p))) := by
  refine JM_of [some (.ref 8), some (.int f)] (by decide) (Nat.le_of_ble_eq_true rfl) rfl ?_
  refine J_aload_n (pq := 1) dX5_refuse_0 rfl rfl (J_getA (pq := 4) dX5_refuse_1 rfl f_X5_23 (by decide +kernel) (by first | exact hc0 | exact hd0 | exact hK.at rfl) (hX _ _ _ rfl) (J_iload_n (pq := 5) dX5_refuse_4 rfl rfl (J_aload_n (pq := 6) dX5_refuse_5 rfl rfl (J_getI (pq := 9) dX5_refuse_6 rfl f_X5_122 jsI (by first | exact hc0 | exact hd0 | exact hK.at rfl) (?_)))))
  rw [hT.2.1]
  refine J_virtF (pq := 12) dX5_refuse_9 rfl (j_mark hK) rfl tg_X1_mark l_X5_38 vi_X1_mark (by first | exact hc0 | exact hd0 | exact hK.at rfl) ⟨by decide, rfl⟩ (Nat.le_of_ble_eq_true rfl) (Nat.zero_le _) (Nat.zero_le _) (Nat.le_of_ble_eq_true rfl) (J_iconst (pq := 13) dX5_refuse_12 rfl c_iconst_0 (J_iret dX5_refuse_13 rfl (by first | rfl | exact bi_nar _) ?_))
  exact ⟨rfl, rfl⟩
/-- which sign is which token -/
def sgC (s : Int32) : Nat := if s = 59 then 2 else if s = 123 then 3 else 4
theorem sg_C {s : Int32} (hs : s = 59 ∨ s = 123 ∨ s = 125) (hp : p ≤ n) (hn4 : n ≤ 400) (hby : tby t) : (decide (tkK t n p = 3) && decide (tat t n (tkQ t n p) = s)) = decide (tkC t n p = sgC s) := by
  obtain ⟨-, -, q2, q3, q4, -, -⟩ := tkC_K (t := t) hp hn4 hby
  rw [← Bool.decide_and]
  rcases hs with rfl | rfl | rfl
  · exact decide_eq_decide.mpr q2
  · exact decide_eq_decide.mpr q3
  · exact decide_eq_decide.mpr q4
theorem j_takeSign {s : Int32} (hs : s = 59 ∨ s = 123 ∨ s = 125) (hK : Kin h) (hX : XR h) (hn : gi h 1 1 = nI n) (hn4 : n ≤ 400) (ht : gi h 2 = t) (hby : tby t) (hp : p ≤ n) (hT : XT h t n p) : JF x yX5_takeSign cX5_takeSign 2 (some .boolean) 3 0 0 [.ref 8, .int s] h (some (.int (bi (decide (tkC t n p = sgC s))))) (if tkC t n p = sgC s then xTok h t n (tkE t n p) else si (si h 4 0 1) 4 1 (nI (tkQ t n p))) := by
  have hsg := j_isSign (x := x) (s := s) hK hX hn hn4 ht hp hT
  rw [sg_C hs hp hn4 hby] at hsg
  have hb := tkE_b (t := t) hp
  refine JM_of [some (.ref 8), some (.int s)] (by decide) (Nat.le_of_ble_eq_true rfl) rfl ?_
  refine J_aload_n (pq := 1) dX5_takeSign_0 rfl rfl (J_iload_n (pq := 2) dX5_takeSign_1 rfl rfl (J_virtF (pq := 5) dX5_takeSign_2 rfl (hsg) rfl tg_X5_isSign l_X5_60 vi_X5_isSign (by first | exact hc0 | exact hd0 | exact hK.at rfl) ⟨by decide, rfl⟩ (Nat.le_of_ble_eq_true rfl) (Nat.zero_le _) (Nat.zero_le _) (Nat.le_of_ble_eq_true rfl) (J_if_ne (pq := 8) (tgt := 14) dX5_takeSign_5 rfl rfl (fun c => ?_) (fun c => ?_))))
  · rw [bi_0, decide_eq_false_iff_not, Decidable.not_not] at c
    rw [if_pos c, decide_eq_true c]
    refine J_aload_n (pq := 15) dX5_takeSign_14 rfl rfl (J_virtF (pq := 18) dX5_takeSign_15 rfl (j_next hK hX hn hn4 ht hb.2.1 hT.2.2) rfl tg_X5_nextToken l_X5_54 vi_X5_nextToken (by first | exact hc0 | exact hd0 | exact hK.at rfl) ⟨by decide, rfl⟩ (Nat.le_of_ble_eq_true rfl) (Nat.zero_le _) (Nat.zero_le _) (Nat.le_of_ble_eq_true rfl) (J_iconst (pq := 19) dX5_takeSign_18 rfl c_iconst_1 (J_iret dX5_takeSign_19 rfl (by first | rfl | exact bi_nar _) ?_)))
    exact ⟨rfl, rfl⟩
  · rw [bi_0, decide_eq_false_iff_not] at c
    rw [if_neg c, decide_eq_false c]
    refine J_aload_n (pq := 9) dX5_takeSign_8 rfl rfl (J_iconst (pq := 10) dX5_takeSign_9 rfl c_iconst_1 (J_virtF (pq := 13) dX5_takeSign_10 rfl (j_refuse hK hX hT) rfl tg_X5_refuse l_X5_71 vi_X5_refuse (by first | exact hc0 | exact hd0 | exact hK.at rfl) ⟨by decide, rfl⟩ (Nat.le_of_ble_eq_true rfl) (Nat.zero_le _) (Nat.zero_le _) (Nat.le_of_ble_eq_true rfl) (J_iret dX5_takeSign_13 rfl (by first | rfl | exact bi_nar _) ?_)))
    exact ⟨rfl, rfl⟩
/-- the number that the token tells -/
def tkN (t : Nat → Int32) (n p : Nat) : Nat := dval t (tkQ t n p) (tkE t n p - tkQ t n p)
theorem j_takeNum {i lo hi : Nat} (hK : Kin h) (hX : XR h) (hC : RKc h d e) (hie : i < e) (hd : 13 ≤ d) (hn : gi h 1 1 = nI n) (hn4 : n ≤ 400) (ht : gi h 2 = t) (hby : tby t) (hp : p ≤ n) (hT : XT h t n p) (hlo : lo ≤ 1) (hhi : hi ≤ 50) : JF x yX5_takeNumber cX5_takeNumber 6 (some .boolean) 3 0 0 [.ref 8, .ref d, .int (nI i), .int (nI lo), .int (nI hi)] h (some (.int (bi (decide (tkC t n p = 1 ∧ lo ≤ tkN t n p ∧ tkN t n p ≤ hi))))) (if tkC t n p = 1 then (if lo ≤ tkN t n p ∧ tkN t n p ≤ hi then xTok (si h (d + 2) i (nI (tkN t n p))) t n (tkE t n p) else si (si h 4 0 2) 4 1 (nI (tkQ t n p))) else si (si h 4 0 1) 4 1 (nI (tkQ t n p))) := by
  obtain ⟨-, q1, -⟩ := tkC_K (t := t) hp hn4 hby
  have hkl : tkK t n p < 5 := kb_lt _
  have hb := tkE_b (t := t) hp
  have hd0 := hC.1.1.1
  refine JM_of [some (.ref 8), some (.ref d), some (.int (nI i)), some (.int (nI lo)), some (.int (nI hi)), none] (by decide) (Nat.le_of_ble_eq_true rfl) rfl ?_
  refine J_aload_n (pq := 1) dX5_takeNumber_0 rfl rfl (J_getI (pq := 4) dX5_takeNumber_1 rfl f_X5_57 jsI (by first | exact hc0 | exact hd0 | exact hK.at rfl) (J_iconst (pq := 5) dX5_takeNumber_4 rfl c_iconst_2 (J_icmp_eq (pq := 8) (tgt := 14) dX5_takeNumber_5 rfl rfl (fun c => ?_) (fun c => ?_))))
  rotate_left
  · rw [hT.1, show (2 : Int32) = nI 2 from rfl, nI_eq (by omega) (by omega), q1] at c
    rw [if_neg c, decide_eq_false (fun z => c z.1)]
    refine J_aload_n (pq := 9) dX5_takeNumber_8 rfl rfl (J_iconst (pq := 10) dX5_takeNumber_9 rfl c_iconst_1 (J_virtF (pq := 13) dX5_takeNumber_10 rfl (j_refuse hK hX hT) rfl tg_X5_refuse l_X5_71 vi_X5_refuse (by first | exact hc0 | exact hd0 | exact hK.at rfl) ⟨by decide, rfl⟩ (Nat.le_of_ble_eq_true rfl) (Nat.zero_le _) (Nat.zero_le _) (Nat.le_of_ble_eq_true rfl) (J_iret dX5_takeNumber_13 rfl (by first | rfl | exact bi_nar _) ?_)))
    exact ⟨rfl, rfl⟩
  rw [hT.1, show (2 : Int32) = nI 2 from rfl, nI_eq (by omega) (by omega), q1] at c
  have c1 := c
  rw [if_pos c1]
  refine J_aload_n (pq := 15) dX5_takeNumber_14 rfl rfl (J_virtF (pq := 18) dX5_takeNumber_15 rfl (j_tokNum hK hX hn hn4 ht hp hT c1) rfl tg_X5_tokenNumber l_X5_116 vi_X5_tokenNumber (by first | exact hc0 | exact hd0 | exact hK.at rfl) ⟨by decide, rfl⟩ (Nat.le_of_ble_eq_true rfl) (Nat.zero_le _) (Nat.zero_le _) (Nat.le_of_ble_eq_true rfl) (J_istore (pq := 20) dX5_takeNumber_18 rfl (Nat.le_of_ble_eq_true rfl) (Nat.le_of_ble_eq_true rfl) rfl (J_iload (pq := 22) dX5_takeNumber_20 rfl rfl (J_iload_n (pq := 23) dX5_takeNumber_22 rfl rfl (J_iload (pq := 25) dX5_takeNumber_23 rfl rfl (J_statF (pq := 28) dX5_takeNumber_25 rfl (j_X8_isWithin) rfl tg_X8_isWithin l_X5_99 st_X8_isWithin (Nat.le_of_ble_eq_true rfl) (Nat.zero_le _) (Nat.zero_le _) (Nat.le_of_ble_eq_true rfl) (J_if_ne (pq := 31) (tgt := 37) dX5_takeNumber_28 rfl rfl (fun c => ?_) (fun c => ?_))))))))
  · rw [bi_0, Bool.not_eq_false, isin_t, nI_toInt (by omega), nI_toInt (by omega), nI_toInt (by omega)] at c
    have c2 : lo ≤ tkN t n p ∧ tkN t n p ≤ hi := by
      have : min 1000 (tkN t n p) = min 1000 (dval t (tkQ t n p) (tkE t n p - tkQ t n p)) := rfl
      rw [← this] at c
      omega
    have e1 : min 1000 (dval t (tkQ t n p) (tkE t n p - tkQ t n p)) = tkN t n p := by
      show min 1000 (tkN t n p) = _
      omega
    rw [if_pos c2, decide_eq_true ⟨c1, c2⟩, e1]
    refine J_aload_n (pq := 38) dX5_takeNumber_37 rfl rfl (J_iload_n (pq := 39) dX5_takeNumber_38 rfl rfl (J_iload (pq := 41) dX5_takeNumber_39 rfl rfl (J_virtF (pq := 44) dX5_takeNumber_41 rfl (j_setNum hC hie) rfl tg_X4_setNumber l_X5_119 vi_X4_setNumber hd0 ⟨by decide, rfl⟩ (Nat.le_of_ble_eq_true rfl) (Nat.zero_le _) (Nat.zero_le _) (Nat.le_of_ble_eq_true rfl) (?_))))
    have hT' : gi (si h (d + 2) i (nI (tkN t n p))) 8 4 = nI (tkE t n p) := by rw [gi_si, if_neg (by omega)]; exact hT.2.2
    have hK' : Kin (si h (d + 2) i (nI (tkN t n p))) := hK
    have hX' : XR (si h (d + 2) i (nI (tkN t n p))) := hX
    have hn' : gi (si h (d + 2) i (nI (tkN t n p))) 1 1 = nI n := by rw [gi_si, if_neg (by omega)]; exact hn
    have ht' : gi (si h (d + 2) i (nI (tkN t n p))) 2 = t := by rw [← ht]; funext j; rw [gi_si, if_neg (by omega)]
    refine J_aload_n (pq := 45) dX5_takeNumber_44 rfl rfl (J_virtF (pq := 48) dX5_takeNumber_45 rfl (j_next hK' hX' hn' hn4 ht' hb.2.1 hT') rfl tg_X5_nextToken l_X5_54 vi_X5_nextToken (hK'.at rfl) ⟨by decide, rfl⟩ (Nat.le_of_ble_eq_true rfl) (Nat.zero_le _) (Nat.zero_le _) (Nat.le_of_ble_eq_true rfl) (J_iconst (pq := 49) dX5_takeNumber_48 rfl c_iconst_1 (J_iret dX5_takeNumber_49 rfl (by first | rfl | exact bi_nar _) ?_)))
    exact ⟨rfl, rfl⟩
  · rw [bi_0, isin_f, nI_toInt (by omega), nI_toInt (by omega), nI_toInt (by omega)] at c
    have c2 : ¬ (lo ≤ tkN t n p ∧ tkN t n p ≤ hi) := by
      have : min 1000 (tkN t n p) = min 1000 (dval t (tkQ t n p) (tkE t n p - tkQ t n p)) := rfl
      rw [← this] at c
      omega
    rw [if_neg c2, decide_eq_false (fun z => c2 z.2)]
    refine J_aload_n (pq := 32) dX5_takeNumber_31 rfl rfl (J_iconst (pq := 33) dX5_takeNumber_32 rfl c_iconst_2 (J_virtF (pq := 36) dX5_takeNumber_33 rfl (j_refuse hK hX hT) rfl tg_X5_refuse l_X5_71 vi_X5_refuse (by first | exact hc0 | exact hd0 | exact hK.at rfl) ⟨by decide, rfl⟩ (Nat.le_of_ble_eq_true rfl) (Nat.zero_le _) (Nat.zero_le _) (Nat.le_of_ble_eq_true rfl) (J_iret dX5_takeNumber_36 rfl (by first | rfl | exact bi_nar _) ?_)))
    exact ⟨rfl, rfl⟩
theorem j_takeOpen {i u : Nat} {b : Bool} (hK : Kin h) (hX : XR h) (hn : gi h 1 1 = nI n) (hn4 : n ≤ 400) (ht : gi h 2 = t) (hby : tby t) (hp : p ≤ n) (hT : XT h t n p) (h87 : gi h 8 7 = nI u) (hu : u < 5) : JF x yX5_takeOpening cX5_takeOpening 3 (some .boolean) 4 0 0 [.ref 8, .int (nI i), .int (bi b)] h (some (.int (bi (decide (tkC t n p = 3))))) (if tkC t n p = 3 then si (si (si (xTok h t n (tkE t n p)) 9 u (nI i)) 10 u (bi b)) 8 7 (nI (u + 1)) else si (si h 4 0 1) 4 1 (nI (tkQ t n p))) := by
  have hsg := j_takeSign (x := x) (s := 123) (Or.inr (Or.inl rfl)) hK hX hn hn4 ht hby hp hT
  rw [show sgC 123 = 3 from rfl] at hsg
  refine JM_of [some (.ref 8), some (.int (nI i)), some (.int (bi b))] (by decide) (Nat.le_of_ble_eq_true rfl) rfl ?_
  refine J_aload_n (pq := 1) dX5_takeOpening_0 rfl rfl (J_bipush (pq := 3) dX5_takeOpening_1 rfl c_bipush_123 (J_virtF (pq := 6) dX5_takeOpening_3 rfl (hsg) rfl tg_X5_takeSign l_X5_92 vi_X5_takeSign (by first | exact hc0 | exact hd0 | exact hK.at rfl) ⟨by decide, rfl⟩ (Nat.le_of_ble_eq_true rfl) (Nat.zero_le _) (Nat.zero_le _) (Nat.le_of_ble_eq_true rfl) (J_if_ne (pq := 9) (tgt := 11) dX5_takeOpening_6 rfl rfl (fun c => ?_) (fun c => ?_))))
  rotate_left
  · rw [bi_0, decide_eq_false_iff_not] at c
    rw [if_neg c, if_neg c, decide_eq_false c]
    refine J_iconst (pq := 10) dX5_takeOpening_9 rfl c_iconst_0 (J_iret dX5_takeOpening_10 rfl (by first | rfl | exact bi_nar _) ?_)
    exact ⟨rfl, rfl⟩
  rw [bi_0, decide_eq_false_iff_not, Decidable.not_not] at c
  rw [if_pos c, if_pos c, decide_eq_true c]
  generalize hG : xTok h t n (tkE t n p) = G
  have hKG : Kin G := by rw [← hG]; exact hK
  have hXG : XR G := by rw [← hG]; exact hX
  have g7 : gi G 8 7 = nI u := by rw [← hG, xTok_o (by omega)]; exact h87
  have hb5 : vp_in (nI u) 5 := vp_in_nI hu (by omega)
  have hxu : ix (nI u) = u := ixn (by omega)
  refine J_aload_n (pq := 12) dX5_takeOpening_11 rfl rfl (J_getI (pq := 15) dX5_takeOpening_12 rfl f_X5_47 jsI (hKG.at rfl) (J_if_lt (pq := 18) (tgt := 56) dX5_takeOpening_15 rfl rfl (fun c => ?_) (fun c => ?_)))
  · rw [g7, show (0 : Int32) = nI 0 from rfl, nI_ltI (by omega) (by omega)] at c; omega
  refine J_aload_n (pq := 19) dX5_takeOpening_18 rfl rfl (J_getI (pq := 22) dX5_takeOpening_19 rfl f_X5_47 jsI (hKG.at rfl) (J_iconst (pq := 23) dX5_takeOpening_22 rfl c_iconst_5 (J_icmp_ge (pq := 26) (tgt := 56) dX5_takeOpening_23 rfl rfl (fun c => ?_) (fun c => ?_))))
  · rw [g7, show (5 : Int32) = nI 5 from rfl, nI_leI (by omega) (by omega)] at c; omega
  refine J_aload_n (pq := 27) dX5_takeOpening_26 rfl rfl (J_getA (pq := 30) dX5_takeOpening_27 rfl f_X5_9 (by decide +kernel) (hKG.at rfl) (hXG _ _ _ rfl) (J_aload_n (pq := 31) dX5_takeOpening_30 rfl rfl (J_getI (pq := 34) dX5_takeOpening_31 rfl f_X5_47 jsI (hKG.at rfl) (?_))))
  rw [g7]
  refine J_iload_n (pq := 35) dX5_takeOpening_34 rfl rfl (J_iast (pq := 36) dX5_takeOpening_35 rfl (hKG.at rfl) (by assumption) (J_aload_n (pq := 37) dX5_takeOpening_36 rfl rfl (J_getA (pq := 40) dX5_takeOpening_37 rfl f_X5_15 (by decide +kernel) (hKG.at rfl) (hXG _ _ _ rfl) (J_aload_n (pq := 41) dX5_takeOpening_40 rfl rfl (J_getI (pq := 44) dX5_takeOpening_41 rfl f_X5_47 jsI (hKG.at rfl) (?_))))))
  rw [hxu, gi_si, if_neg (by omega), g7]
  refine J_iload_n (pq := 45) dX5_takeOpening_44 rfl rfl (J_zast (pq := 46) dX5_takeOpening_45 rfl (hKG.at rfl) (by assumption) (J_aload_n (pq := 47) dX5_takeOpening_46 rfl rfl (J_dup (pq := 48) dX5_takeOpening_47 rfl rfl (J_getI (pq := 51) dX5_takeOpening_48 rfl f_X5_47 jsI (hKG.at rfl) (J_iconst (pq := 52) dX5_takeOpening_51 rfl c_iconst_1 (J_iadd (pq := 53) dX5_takeOpening_52 rfl (?_)))))))
  rw [hxu, gi_si, if_neg (by omega), gi_si, if_neg (by omega), g7, nI_1, bi_and]
  refine J_putI (pq := 56) dX5_takeOpening_53 rfl f_X5_47 (Or.inl rfl) (hKG.at rfl) (J_iconst (pq := 57) dX5_takeOpening_56 rfl c_iconst_1 (J_iret dX5_takeOpening_57 rfl (by first | rfl | exact bi_nar _) ?_))
  exact ⟨rfl, rfl⟩
/-- the number of a step's kind in the class -/
def skK (t : Nat → Int32) (n p : Nat) : Int32 := if tkC t n p = 6 then 0 else if tkC t n p = 7 then 1 else if tkC t n p = 8 then 2 else if tkC t n p = 9 then 3 else if tkC t n p = 10 then 4 else -1
theorem j_stepKind (hK : Kin h) (hX : XR h) (hn : gi h 1 1 = nI n) (hn4 : n ≤ 400) (ht : gi h 2 = t) (hby : tby t) (hp : p ≤ n) (hT : XT h t n p) : JF x yX5_stepKind cX5_stepKind 1 (some .int) 5 0 0 [.ref 8] h (some (.int (skK t n p))) h := by
  obtain ⟨-, -, -, -, -, q5, q6⟩ := tkC_K (t := t) hp hn4 hby
  have hw : ∀ (k : Nat) (hk : k < 6), JF x yX5_isWord cX5_isWord 3 (some .boolean) 4 0 0 [.ref 8, .ref (1000000000 + (k + 1))] h (some (.int (bi (decide (tkK t n p = 1) && isw t (tkQ t n p) (tkE t n p) (strB.getD k []))))) h := fun k hk => j_isWord hk hK hX hn hn4 ht hp hT
  refine JM_of [some (.ref 8)] (by decide) (Nat.le_of_ble_eq_true rfl) rfl ?_
  by_cases h1 : tkK t n p = 1
  · have hc := q5 h1
    unfold wcode at hc
    have hsk : skK t n p = if isw t (tkQ t n p) (tkE t n p) [118, 111, 108, 116] = true then 0 else if isw t (tkQ t n p) (tkE t n p) [112, 117, 108, 115, 101] = true then 1 else if isw t (tkQ t n p) (tkE t n p) [118, 101, 114, 105, 102, 121] = true then 2 else if isw t (tkQ t n p) (tkE t n p) [116, 114, 121] = true then 3 else if isw t (tkQ t n p) (tkE t n p) [111, 107] = true then 4 else -1 := by
      unfold skK
      rw [hc]
      by_cases w1 : isw t (tkQ t n p) (tkE t n p) [118, 111, 108, 116] = true
      · simp [w1]
      by_cases w2 : isw t (tkQ t n p) (tkE t n p) [112, 117, 108, 115, 101] = true
      · simp [w1, w2]
      by_cases w3 : isw t (tkQ t n p) (tkE t n p) [118, 101, 114, 105, 102, 121] = true
      · simp [w1, w2, w3]
      by_cases w4 : isw t (tkQ t n p) (tkE t n p) [116, 114, 121] = true
      · simp [w1, w2, w3, w4]
      by_cases w5 : isw t (tkQ t n p) (tkE t n p) [111, 107] = true
      · simp [w1, w2, w3, w4, w5]
      by_cases w6 : isw t (tkQ t n p) (tkE t n p) [101, 108, 115, 101] = true
      · simp [w1, w2, w3, w4, w5, w6]
      · simp [w1, w2, w3, w4, w5, w6]
    rw [hsk]
    have e0 : strB.getD 1 [] = [118, 111, 108, 116] := rfl
    have e1 : strB.getD 2 [] = [112, 117, 108, 115, 101] := rfl
    have e2 : strB.getD 3 [] = [118, 101, 114, 105, 102, 121] := rfl
    have e3 : strB.getD 4 [] = [116, 114, 121] := rfl
    have e4 : strB.getD 5 [] = [111, 107] := rfl
    rw [decide_eq_true h1] at hw
    simp only [Bool.true_and] at hw
    refine J_aload_n (pq := 1) dX5_stepKind_0 rfl rfl (?_)
    refine J_ldcS (k := 1) (tx := "volt") (pq := 3) dX5_stepKind_1 rfl rfl (by decide +kernel) ?_
    refine J_virtF (pq := 6) dX5_stepKind_3 rfl (hw 1 (by omega)) rfl tg_X5_isWord l_X5_109 vi_X5_isWord (by first | exact hc0 | exact hd0 | exact hK.at rfl) ⟨by decide, rfl⟩ (Nat.le_of_ble_eq_true rfl) (Nat.zero_le _) (Nat.zero_le _) (Nat.le_of_ble_eq_true rfl) (J_if_eq (pq := 9) (tgt := 11) dX5_stepKind_6 rfl rfl (fun c => ?_) (fun c => ?_))
    rotate_left
    · rw [bi_0, Bool.not_eq_false, e0] at c
      rw [if_pos c]
      refine J_iconst (pq := 10) dX5_stepKind_9 rfl c_iconst_0 (J_iret dX5_stepKind_10 rfl rfl ?_)
      exact ⟨rfl, rfl⟩
    rw [bi_0, e0] at c
    rw [if_neg (by rw [c]; decide)]
    refine J_aload_n (pq := 12) dX5_stepKind_11 rfl rfl (?_)
    refine J_ldcS (k := 2) (tx := "pulse") (pq := 14) dX5_stepKind_12 rfl rfl (by decide +kernel) ?_
    refine J_virtF (pq := 17) dX5_stepKind_14 rfl (hw 2 (by omega)) rfl tg_X5_isWord l_X5_109 vi_X5_isWord (by first | exact hc0 | exact hd0 | exact hK.at rfl) ⟨by decide, rfl⟩ (Nat.le_of_ble_eq_true rfl) (Nat.zero_le _) (Nat.zero_le _) (Nat.le_of_ble_eq_true rfl) (J_if_eq (pq := 20) (tgt := 22) dX5_stepKind_17 rfl rfl (fun c => ?_) (fun c => ?_))
    rotate_left
    · rw [bi_0, Bool.not_eq_false, e1] at c
      rw [if_pos c]
      refine J_iconst (pq := 21) dX5_stepKind_20 rfl c_iconst_1 (J_iret dX5_stepKind_21 rfl rfl ?_)
      exact ⟨rfl, rfl⟩
    rw [bi_0, e1] at c
    rw [if_neg (by rw [c]; decide)]
    refine J_aload_n (pq := 23) dX5_stepKind_22 rfl rfl (?_)
    refine J_ldcS (k := 3) (tx := "verify") (pq := 25) dX5_stepKind_23 rfl rfl (by decide +kernel) ?_
    refine J_virtF (pq := 28) dX5_stepKind_25 rfl (hw 3 (by omega)) rfl tg_X5_isWord l_X5_109 vi_X5_isWord (by first | exact hc0 | exact hd0 | exact hK.at rfl) ⟨by decide, rfl⟩ (Nat.le_of_ble_eq_true rfl) (Nat.zero_le _) (Nat.zero_le _) (Nat.le_of_ble_eq_true rfl) (J_if_eq (pq := 31) (tgt := 33) dX5_stepKind_28 rfl rfl (fun c => ?_) (fun c => ?_))
    rotate_left
    · rw [bi_0, Bool.not_eq_false, e2] at c
      rw [if_pos c]
      refine J_iconst (pq := 32) dX5_stepKind_31 rfl c_iconst_2 (J_iret dX5_stepKind_32 rfl rfl ?_)
      exact ⟨rfl, rfl⟩
    rw [bi_0, e2] at c
    rw [if_neg (by rw [c]; decide)]
    refine J_aload_n (pq := 34) dX5_stepKind_33 rfl rfl (?_)
    refine J_ldcS (k := 4) (tx := "try") (pq := 36) dX5_stepKind_34 rfl rfl (by decide +kernel) ?_
    refine J_virtF (pq := 39) dX5_stepKind_36 rfl (hw 4 (by omega)) rfl tg_X5_isWord l_X5_109 vi_X5_isWord (by first | exact hc0 | exact hd0 | exact hK.at rfl) ⟨by decide, rfl⟩ (Nat.le_of_ble_eq_true rfl) (Nat.zero_le _) (Nat.zero_le _) (Nat.le_of_ble_eq_true rfl) (J_if_eq (pq := 42) (tgt := 44) dX5_stepKind_39 rfl rfl (fun c => ?_) (fun c => ?_))
    rotate_left
    · rw [bi_0, Bool.not_eq_false, e3] at c
      rw [if_pos c]
      refine J_iconst (pq := 43) dX5_stepKind_42 rfl c_iconst_3 (J_iret dX5_stepKind_43 rfl rfl ?_)
      exact ⟨rfl, rfl⟩
    rw [bi_0, e3] at c
    rw [if_neg (by rw [c]; decide)]
    refine J_aload_n (pq := 45) dX5_stepKind_44 rfl rfl (?_)
    refine J_ldcS (k := 5) (tx := "ok") (pq := 47) dX5_stepKind_45 rfl rfl (by decide +kernel) ?_
    refine J_virtF (pq := 50) dX5_stepKind_47 rfl (hw 5 (by omega)) rfl tg_X5_isWord l_X5_109 vi_X5_isWord (by first | exact hc0 | exact hd0 | exact hK.at rfl) ⟨by decide, rfl⟩ (Nat.le_of_ble_eq_true rfl) (Nat.zero_le _) (Nat.zero_le _) (Nat.le_of_ble_eq_true rfl) (J_if_eq (pq := 53) (tgt := 57) dX5_stepKind_50 rfl rfl (fun c => ?_) (fun c => ?_))
    · rw [bi_0, e4] at c
      rw [if_neg (by rw [c]; decide)]
      refine J_iconst (pq := 58) dX5_stepKind_57 rfl c_iconst_m1 (J_iret dX5_stepKind_58 rfl rfl ?_)
      exact ⟨rfl, rfl⟩
    · rw [bi_0, Bool.not_eq_false, e4] at c
      rw [if_pos c]
      refine J_iconst (pq := 54) dX5_stepKind_53 rfl c_iconst_4 (J_goto (tgt := 58) dX5_stepKind_54 rfl (J_iret dX5_stepKind_58 rfl rfl ?_))
      exact ⟨rfl, rfl⟩
  · have h5 := q6 h1
    rw [show skK t n p = -1 from by unfold skK; rw [if_neg (by omega), if_neg (by omega), if_neg (by omega), if_neg (by omega), if_neg (by omega)]]
    rw [decide_eq_false h1] at hw
    simp only [Bool.false_and] at hw
    refine J_aload_n (pq := 1) dX5_stepKind_0 rfl rfl (?_)
    refine J_ldcS (k := 1) (tx := "volt") (pq := 3) dX5_stepKind_1 rfl rfl (by decide +kernel) ?_
    refine J_virtF (pq := 6) dX5_stepKind_3 rfl (hw 1 (by omega)) rfl tg_X5_isWord l_X5_109 vi_X5_isWord (by first | exact hc0 | exact hd0 | exact hK.at rfl) ⟨by decide, rfl⟩ (Nat.le_of_ble_eq_true rfl) (Nat.zero_le _) (Nat.zero_le _) (Nat.le_of_ble_eq_true rfl) (J_if_eq (pq := 9) (tgt := 11) dX5_stepKind_6 rfl rfl (fun c => ?_) (fun c => ?_))
    rotate_left
    · exact absurd rfl c
    refine J_aload_n (pq := 12) dX5_stepKind_11 rfl rfl (?_)
    refine J_ldcS (k := 2) (tx := "pulse") (pq := 14) dX5_stepKind_12 rfl rfl (by decide +kernel) ?_
    refine J_virtF (pq := 17) dX5_stepKind_14 rfl (hw 2 (by omega)) rfl tg_X5_isWord l_X5_109 vi_X5_isWord (by first | exact hc0 | exact hd0 | exact hK.at rfl) ⟨by decide, rfl⟩ (Nat.le_of_ble_eq_true rfl) (Nat.zero_le _) (Nat.zero_le _) (Nat.le_of_ble_eq_true rfl) (J_if_eq (pq := 20) (tgt := 22) dX5_stepKind_17 rfl rfl (fun c => ?_) (fun c => ?_))
    rotate_left
    · exact absurd rfl c
    refine J_aload_n (pq := 23) dX5_stepKind_22 rfl rfl (?_)
    refine J_ldcS (k := 3) (tx := "verify") (pq := 25) dX5_stepKind_23 rfl rfl (by decide +kernel) ?_
    refine J_virtF (pq := 28) dX5_stepKind_25 rfl (hw 3 (by omega)) rfl tg_X5_isWord l_X5_109 vi_X5_isWord (by first | exact hc0 | exact hd0 | exact hK.at rfl) ⟨by decide, rfl⟩ (Nat.le_of_ble_eq_true rfl) (Nat.zero_le _) (Nat.zero_le _) (Nat.le_of_ble_eq_true rfl) (J_if_eq (pq := 31) (tgt := 33) dX5_stepKind_28 rfl rfl (fun c => ?_) (fun c => ?_))
    rotate_left
    · exact absurd rfl c
    refine J_aload_n (pq := 34) dX5_stepKind_33 rfl rfl (?_)
    refine J_ldcS (k := 4) (tx := "try") (pq := 36) dX5_stepKind_34 rfl rfl (by decide +kernel) ?_
    refine J_virtF (pq := 39) dX5_stepKind_36 rfl (hw 4 (by omega)) rfl tg_X5_isWord l_X5_109 vi_X5_isWord (by first | exact hc0 | exact hd0 | exact hK.at rfl) ⟨by decide, rfl⟩ (Nat.le_of_ble_eq_true rfl) (Nat.zero_le _) (Nat.zero_le _) (Nat.le_of_ble_eq_true rfl) (J_if_eq (pq := 42) (tgt := 44) dX5_stepKind_39 rfl rfl (fun c => ?_) (fun c => ?_))
    rotate_left
    · exact absurd rfl c
    refine J_aload_n (pq := 45) dX5_stepKind_44 rfl rfl (?_)
    refine J_ldcS (k := 5) (tx := "ok") (pq := 47) dX5_stepKind_45 rfl rfl (by decide +kernel) ?_
    refine J_virtF (pq := 50) dX5_stepKind_47 rfl (hw 5 (by omega)) rfl tg_X5_isWord l_X5_109 vi_X5_isWord (by first | exact hc0 | exact hd0 | exact hK.at rfl) ⟨by decide, rfl⟩ (Nat.le_of_ble_eq_true rfl) (Nat.zero_le _) (Nat.zero_le _) (Nat.le_of_ble_eq_true rfl) (J_if_eq (pq := 53) (tgt := 57) dX5_stepKind_50 rfl rfl (fun c => ?_) (fun c => ?_))
    · refine J_iconst (pq := 58) dX5_stepKind_57 rfl c_iconst_m1 (J_iret dX5_stepKind_58 rfl rfl ?_)
      exact ⟨rfl, rfl⟩
    · exact absurd rfl c
theorem isw_else {q r : Nat} (h : isw t q r [101, 108, 115, 101] = true) : wcode t q r = 11 := by
  unfold isw at h
  rw [Bool.and_eq_true, decide_eq_true_eq, decide_eq_true_eq] at h
  obtain ⟨hl, hc⟩ := h
  have h0 := hc 0 (by decide)
  have no : ∀ s : List Int32, (s.length ≠ 4 ∨ s.getD 0 0 ≠ 101) → isw t q r s = false := fun s hs => by
    unfold isw
    rw [Bool.and_eq_false_iff, decide_eq_false_iff_not, decide_eq_false_iff_not]
    by_cases h4 : s.length = 4
    · right
      intro z
      have := z 0 (by omega)
      rw [show t (q + 0) = 101 from h0] at this
      exact (hs.resolve_left (fun z => z h4)) this.symm
    · left; intro z; exact h4 (by rw [← z, hl]; rfl)
  unfold wcode
  rw [no _ (Or.inr (by decide)), no _ (Or.inl (by decide)), no _ (Or.inl (by decide)), no _ (Or.inl (by decide)), no _ (Or.inl (by decide))]
  rw [show isw t q r [101, 108, 115, 101] = true from by unfold isw; rw [decide_eq_true hl, decide_eq_true hc]; rfl]
  rfl
theorem j_isElse {k : Nat} (hk0 : k = 0) (hK : Kin h) (hX : XR h) (hn : gi h 1 1 = nI n) (hn4 : n ≤ 400) (ht : gi h 2 = t) (hby : tby t) (hp : p ≤ n) (hT : XT h t n p) : JF x yX5_isWord cX5_isWord 3 (some .boolean) 4 0 0 [.ref 8, .ref (1000000000 + (k + 1))] h (some (.int (bi (decide (tkC t n p = 11))))) h := by
  have := j_isWord (x := x) (k := k) (by omega) hK hX hn hn4 ht hp hT
  obtain ⟨-, -, -, -, -, q5, q6⟩ := tkC_K (t := t) hp hn4 hby
  have e : (decide (tkK t n p = 1) && isw t (tkQ t n p) (tkE t n p) (strB.getD k [])) = decide (tkC t n p = 11) := by
    subst hk0
    by_cases h1 : tkK t n p = 1
    · rw [decide_eq_true h1, Bool.true_and, q5 h1, show strB.getD 0 [] = [101, 108, 115, 101] from rfl]
      cases hw : isw t (tkQ t n p) (tkE t n p) [101, 108, 115, 101] with
      | true => rw [isw_else hw]; rfl
      | false =>
        symm
        rw [decide_eq_false_iff_not]
        unfold wcode
        rw [hw]
        repeat' split
        all_goals first | omega | contradiction
    · rw [decide_eq_false h1, Bool.false_and]
      symm
      rw [decide_eq_false_iff_not]
      have := q6 h1
      omega
  rw [e] at this
  exact this
end R2
