-- the class: all lines, plain bytes, a whole file
section G4
variable {x : JX} {h : JH} {n : Nat}
theorem j_stopOf {p i : Nat} {t : Nat → Int32} (hK : Kin h) (hX : XR h) (hn : gi h 1 1 = nI n) (hn4 : n ≤ 400) (ht : gi h 2 = t) (hi : i ≤ n) (hpi : p ≤ i) (h10 : i < n → t i = 10) : JF x yX2_stopOf cX2_stopOf 4 (some .int) 1 0 0 [.ref 5, .int (nI p), .int (nI i)] h (some (.int (nI (lend t n p i)))) h := by
  subst ht
  refine JM_of [some (.ref 5), some (.int (nI p)), some (.int (nI i)), none] (by decide) (Nat.le_of_ble_eq_true rfl) rfl ?_
  have no : ¬ (i < n ∧ p < i ∧ gi h 2 (i - 1) = 13) → J x yX2_stopOf cX2_stopOf 4 (some .int) 1 0 0 (fun v g => v = some (.int (nI (lend (gi h 2) n p i))) ∧ g = h) 37 [some (.ref 5), some (.int (nI p)), some (.int (nI i)), none] [] h := fun hc => by
    refine J_iconst (pq := 38) dX2_stopOf_37 rfl c_iconst_0 (J_istore_m 3 (pq := 39) dX2_stopOf_38 rfl rfl (Nat.le_of_ble_eq_true rfl) (Nat.le_of_ble_eq_true rfl) rfl (J_iload_n (pq := 40) dX2_stopOf_39 rfl rfl (J_if_eq (pq := 43) (tgt := 49) dX2_stopOf_40 rfl rfl (fun c => ?_) (fun c => ?_))))
    · refine J_iload_n (pq := 50) dX2_stopOf_49 rfl rfl (J_iret dX2_stopOf_50 rfl rfl ?_)
      exact ⟨by unfold lend; rw [if_neg hc], rfl⟩
    · exact absurd rfl c
  refine J_aload_n (pq := 1) dX2_stopOf_0 rfl rfl (J_getA (pq := 4) dX2_stopOf_1 rfl f_X2_15 (by decide +kernel) (by first | exact hc0 | exact hd0 | exact hK.at rfl) (hX _ _ _ rfl) (J_iload_n (pq := 5) dX2_stopOf_4 rfl rfl (J_virtF (pq := 8) dX2_stopOf_5 rfl (j_at hK hX hn hn4 (by omega)) rfl tg_X6_at l_X2_65 vi_X6_at (by first | exact hc0 | exact hd0 | exact hK.at rfl) ⟨by decide, rfl⟩ (Nat.le_of_ble_eq_true rfl) (Nat.zero_le _) (Nat.zero_le _) (Nat.le_of_ble_eq_true rfl) (J_bipush (pq := 10) dX2_stopOf_8 rfl c_bipush_10 (J_icmp_ne (pq := 13) (tgt := 37) dX2_stopOf_10 rfl rfl (fun c => ?_) (fun c => ?_))))))
  · exact no (fun q => c (by unfold tat; rw [if_pos q.1]; exact h10 q.1))
  have c1 : i < n := by
    by_cases hh : i < n
    · exact hh
    · unfold tat at c; rw [if_neg hh] at c; exact absurd c (by decide)
  refine J_iload_n (pq := 14) dX2_stopOf_13 rfl rfl (J_iload_n (pq := 15) dX2_stopOf_14 rfl rfl (J_icmp_le (pq := 18) (tgt := 37) dX2_stopOf_15 rfl rfl (fun c => ?_) (fun c => ?_)))
  · rw [nI_leI (by omega) (by omega)] at c
    exact no (fun q => by omega)
  rw [nI_leI (by omega) (by omega)] at c
  have c2 := c
  refine J_aload_n (pq := 19) dX2_stopOf_18 rfl rfl (J_getA (pq := 22) dX2_stopOf_19 rfl f_X2_15 (by decide +kernel) (by first | exact hc0 | exact hd0 | exact hK.at rfl) (hX _ _ _ rfl) (J_iload_n (pq := 23) dX2_stopOf_22 rfl rfl (J_iconst (pq := 24) dX2_stopOf_23 rfl c_iconst_1 (J_isub (pq := 25) dX2_stopOf_24 rfl (?_)))))
  rw [show nI i - 1 = nI (i - 1) from by rw [show (1 : Int32) = nI 1 from rfl, pk_sub (by omega)]]
  refine J_virtF (pq := 28) dX2_stopOf_25 rfl (j_at hK hX hn hn4 (by omega)) rfl tg_X6_at l_X2_65 vi_X6_at (by first | exact hc0 | exact hd0 | exact hK.at rfl) ⟨by decide, rfl⟩ (Nat.le_of_ble_eq_true rfl) (Nat.zero_le _) (Nat.zero_le _) (Nat.le_of_ble_eq_true rfl) (J_bipush (pq := 30) dX2_stopOf_28 rfl c_bipush_13 (J_icmp_ne (pq := 33) (tgt := 37) dX2_stopOf_30 rfl rfl (fun c => ?_) (fun c => ?_)))
  · rw [show tat (gi h 2) n (i - 1) = gi h 2 (i - 1) from by unfold tat; rw [if_pos (by omega)]] at c
    exact no (fun q => c q.2.2)
  rw [show tat (gi h 2) n (i - 1) = gi h 2 (i - 1) from by unfold tat; rw [if_pos (by omega)]] at c
  have c3 := c
  refine J_iconst (pq := 34) dX2_stopOf_33 rfl c_iconst_1 (J_goto (tgt := 38) dX2_stopOf_34 rfl (J_istore_m 3 (pq := 39) dX2_stopOf_38 rfl rfl (Nat.le_of_ble_eq_true rfl) (Nat.le_of_ble_eq_true rfl) rfl (J_iload_n (pq := 40) dX2_stopOf_39 rfl rfl (J_if_eq (pq := 43) (tgt := 49) dX2_stopOf_40 rfl rfl (fun c => ?_) (fun c => ?_)))))
  · exact absurd c (by decide)
  refine J_iload_n (pq := 44) dX2_stopOf_43 rfl rfl (J_iconst (pq := 45) dX2_stopOf_44 rfl c_iconst_1 (J_isub (pq := 46) dX2_stopOf_45 rfl (J_goto (tgt := 50) dX2_stopOf_46 rfl (J_iret dX2_stopOf_50 rfl rfl ?_))))
  refine ⟨?_, rfl⟩
  unfold lend
  rw [if_pos ⟨c1, by omega, c3⟩, show nI i - 1 = nI (i - 1) from by rw [show (1 : Int32) = nI 1 from rfl, pk_sub (by omega)]]
theorem lend_b {t : Nat → Int32} {p i : Nat} (hpi : p ≤ i) : lend t n p i ≤ i := by unfold lend; split <;> omega
theorem lr_lt {fm : Nat} {t : Nat → Int32} {a e : Nat} : (lr fm t a e).1 ≤ 3 := by
  unfold lr
  split
  · unfold lr1; repeat' split
    all_goals simp
  · unfold lr2; repeat' split
    all_goals simp
/-- what reading all lines leaves behind -/
def TsP (R : Nat × Nat × (Nat → Int32) × Nat) (h g : JH) : Prop := RdX h g ∧ gi g 4 0 = nI R.1 ∧ (R.1 ≠ 0 → gi g 4 1 = nI R.2.1) ∧ (R.1 = 0 → gi g 4 1 = gi h 4 1 ∧ gi g 5 3 = nI R.2.2.2 ∧ ∀ j, gi g 6 j = R.2.2.1 j)
theorem j_takeLines {fm : Nat} {fI : Int32} {t : Nat → Int32} (hfm : (fm = 1 ∧ fI = 1) ∨ (fm = 2 ∧ fI = 2)) (hK : Kin h) (hX : XR h) (hn : gi h 1 1 = nI n) (hn4 : n ≤ 400) (ht : gi h 2 = t) (hby : ∀ j, j < 400 → 0 ≤ t j) (h40 : gi h 4 0 = 0) (h53 : gi h 5 3 = 0) : JM x yX2_takeLines cX2_takeLines 5 none 5 0 0 [.ref 5, .int fI] h (fun v g => v = none ∧ TsP (rdl fm t n (n + 1) 0 (gi h 6) 0) h g) := by
  refine JM_of [some (.ref 5), some (.int fI), none, none, none] (by decide) (Nat.le_of_ble_eq_true rfl) rfl ?_
  have htl : ∀ g p e, Kin g → XR g → gi g 1 1 = nI n → gi g 2 = t → p < e → e ≤ n → JM x yX2_takeLine cX2_takeLine 5 none 4 0 0 [.ref 5, .int fI, .int (nI p), .int (nI e)] g (fun v g' => v = none ∧ TlP t (lr fm t p e) p g g') := fun g p e q1 q2 q3 q4 q5 q6 => by
    unfold lr
    rcases hfm with ⟨rfl, rfl⟩ | ⟨rfl, rfl⟩
    · rw [if_pos rfl]; exact j_takeLine1 q1 q2 q3 hn4 q4 q5 q6
    · rw [if_neg (by omega)]; exact j_takeLine2 q1 q2 q3 hn4 q4 q5 q6
  generalize hR : rdl fm t n (n + 1) 0 (gi h 6) 0 = R
  -- behind the loop, when nothing was found
  have bad : ∀ g a3 a2 a4, RdX h g → gi g 4 0 = 0 → gi g 5 4 = 0 → (R.1 = 4 ∧ R.2.1 = n) → J x yX2_takeLines cX2_takeLines 5 none 5 0 0 (fun v g => v = none ∧ TsP R h g) 82 [some (.ref 5), some (.int fI), a2, a3, a4] [] g := fun g a3 a2 a4 hF g4 g54 hR4 => by
    have hKg : Kin g := hK.of2 hF.1
    have hXg : XR g := hX.of3 (by rw [hF.1])
    have gn : gi g 1 1 = nI n := by rw [hF.2 _ _ (by omega) (by omega) (by omega)]; exact hn
    refine J_aload_n (pq := 83) dX2_takeLines_82 rfl rfl (J_getI (pq := 86) dX2_takeLines_83 rfl f_X2_72 jsZ (hKg.at rfl) (J_if_ne (pq := 89) (tgt := 114) dX2_takeLines_86 rfl rfl (fun c => ?_) (fun c => ?_)))
    · exact absurd g54 c
    refine J_aload_n (pq := 90) dX2_takeLines_89 rfl rfl (J_getA (pq := 93) dX2_takeLines_90 rfl f_X2_19 (by decide +kernel) (hKg.at rfl) (hXg _ _ _ rfl) (J_virtF (pq := 96) dX2_takeLines_93 rfl (j_isFault hKg) rfl tg_X1_isFault l_X2_51 vi_X1_isFault (hKg.at rfl) ⟨by decide, rfl⟩ (Nat.le_of_ble_eq_true rfl) (Nat.zero_le _) (Nat.zero_le _) (Nat.le_of_ble_eq_true rfl) (J_if_ne (pq := 99) (tgt := 114) dX2_takeLines_96 rfl rfl (fun c => ?_) (fun c => ?_))))
    · rw [g4] at c; exact absurd (by decide) c
    refine J_aload_n (pq := 100) dX2_takeLines_99 rfl rfl (J_getA (pq := 103) dX2_takeLines_100 rfl f_X2_19 (by decide +kernel) (hKg.at rfl) (hXg _ _ _ rfl) (J_iconst (pq := 104) dX2_takeLines_103 rfl c_iconst_4 (J_aload_n (pq := 105) dX2_takeLines_104 rfl rfl (J_getA (pq := 108) dX2_takeLines_105 rfl f_X2_15 (by decide +kernel) (hKg.at rfl) (hXg _ _ _ rfl) (J_virtF (pq := 111) dX2_takeLines_108 rfl (j_X6_size hKg) rfl tg_X6_size l_X2_55 vi_X6_size (hKg.at rfl) ⟨by decide, rfl⟩ (Nat.le_of_ble_eq_true rfl) (Nat.zero_le _) (Nat.zero_le _) (Nat.le_of_ble_eq_true rfl) (J_virtF (pq := 114) dX2_takeLines_111 rfl (j_mark hKg) rfl tg_X1_mark l_X2_61 vi_X1_mark (hKg.at rfl) ⟨by decide, rfl⟩ (Nat.le_of_ble_eq_true rfl) (Nat.zero_le _) (Nat.zero_le _) (Nat.le_of_ble_eq_true rfl) (J_vret dX2_takeLines_114 rfl ?_)))))))
    refine ⟨rfl, hF.tr (mark_r g _ _), ?_, fun _ => ?_, fun q => by omega⟩
    · rw [gi_si, if_neg (by omega), gi_si, if_pos ⟨rfl, rfl⟩, hR4.1]; rfl
    · rw [gi_si, if_pos ⟨rfl, rfl⟩, gn, hR4.2]
  -- behind the loop, when a fault or the end was found
  have out : ∀ g a3 a2 a4, Kin g → XR g → (gi g 5 4 = 1 ∨ (gi g 5 4 = 0 ∧ 0 < gi g 4 0)) → TsP R h g → J x yX2_takeLines cX2_takeLines 5 none 5 0 0 (fun v g => v = none ∧ TsP R h g) 82 [some (.ref 5), some (.int fI), a2, a3, a4] [] g := fun g a3 a2 a4 hKg hXg ho hT => by
    refine J_aload_n (pq := 83) dX2_takeLines_82 rfl rfl (J_getI (pq := 86) dX2_takeLines_83 rfl f_X2_72 jsZ (hKg.at rfl) (J_if_ne (pq := 89) (tgt := 114) dX2_takeLines_86 rfl rfl (fun c => ?_) (fun c => ?_)))
    · refine J_vret dX2_takeLines_114 rfl ?_
      exact ⟨rfl, hT⟩
    refine J_aload_n (pq := 90) dX2_takeLines_89 rfl rfl (J_getA (pq := 93) dX2_takeLines_90 rfl f_X2_19 (by decide +kernel) (hKg.at rfl) (hXg _ _ _ rfl) (J_virtF (pq := 96) dX2_takeLines_93 rfl (j_isFault hKg) rfl tg_X1_isFault l_X2_51 vi_X1_isFault (hKg.at rfl) ⟨by decide, rfl⟩ (Nat.le_of_ble_eq_true rfl) (Nat.zero_le _) (Nat.zero_le _) (Nat.le_of_ble_eq_true rfl) (J_if_ne (pq := 99) (tgt := 114) dX2_takeLines_96 rfl rfl (fun c => ?_) (fun c => ?_))))
    · refine J_vret dX2_takeLines_114 rfl ?_
      exact ⟨rfl, hT⟩
    · rw [bi_0, decide_eq_false_iff_not] at c
      exfalso
      rcases ho with ho | ho
      · rename_i c0
        rw [ho] at c0
        exact absurd c0 (by decide)
      · exact c ho.2
  refine J_aload_n (pq := 1) dX2_takeLines_0 rfl rfl (J_iconst (pq := 2) dX2_takeLines_1 rfl c_iconst_0 (J_putZ (pq := 5) dX2_takeLines_2 rfl f_X2_72 (Or.inl rfl) (by first | exact hc0 | exact hd0 | exact hK.at rfl) (by first | exact bi_or _ | exact Or.inl rfl | exact Or.inr rfl | assumption) (J_iconst (pq := 6) dX2_takeLines_5 rfl c_iconst_0 (J_istore_m 2 (pq := 7) dX2_takeLines_6 rfl rfl (Nat.le_of_ble_eq_true rfl) (Nat.le_of_ble_eq_true rfl) rfl (J_iconst (pq := 8) dX2_takeLines_7 rfl c_iconst_0 (J_istore_m 3 (pq := 9) dX2_takeLines_8 rfl rfl (Nat.le_of_ble_eq_true rfl) (Nat.le_of_ble_eq_true rfl) rfl (?_)))))))
  refine J_loop (σ := JH × Nat × Nat × Nat × (Nat → Int32)) (fun s => [some (.ref 5), some (.int fI), some (.int (nI s.2.1)), some (.int (nI s.2.2.1)), none]) (fun _ => []) (fun s => s.1) (fun s => RdX h s.1 ∧ gi s.1 4 0 = 0 ∧ gi s.1 4 1 = gi h 4 1 ∧ gi s.1 5 4 = 0 ∧ gi s.1 5 3 = nI s.2.2.2.1 ∧ (∀ j, gi s.1 6 j = s.2.2.2.2 j) ∧ s.2.1 ≤ s.2.2.1 ∧ s.2.2.1 ≤ n + 1 ∧ (s.2.2.1 ≤ n → eoln t n s.2.2.1 = eoln t n s.2.1) ∧ (s.2.2.1 = n + 1 → s.2.1 = n + 1) ∧ ∃ f, n + 1 - s.2.1 ≤ f ∧ rdl fm t n f s.2.1 s.2.2.2.2 s.2.2.2.1 = R) (fun s => n + 1 - s.2.2.1) (si h 5 4 0, 0, 0, 0, gi h 6) rfl rfl rfl ⟨⟨rfl, fun a b q1 q2 q3 => by rw [gi_si, if_neg (by omega)]⟩, by rw [gi_si, if_neg (by omega)]; exact h40, by rw [gi_si, if_neg (by omega)], by rw [gi_si, if_pos ⟨rfl, rfl⟩], by rw [gi_si, if_neg (by omega)]; exact h53, fun j => by rw [gi_si, if_neg (by omega)], Nat.le_refl _, by simp, fun _ => rfl, fun q => by simp at q, n + 1, by simp, hR⟩ (fun s hs ih => ?_)
  obtain ⟨g0, p, i, ct, im⟩ := s
  obtain ⟨hF, g40, g41, g54, g53, g6, hpi, hin, heo, hlast, f, hff, hr⟩ := hs
  simp only at hF g40 g41 g54 g53 g6 hpi hin heo hlast hff hr ih ⊢
  have hKg : Kin g0 := hK.of2 hF.1
  have hXg : XR g0 := hX.of3 (by rw [hF.1])
  have gn : gi g0 1 1 = nI n := by rw [hF.2 _ _ (by omega) (by omega) (by omega)]; exact hn
  have gt : gi g0 2 = t := by rw [← ht]; funext j; exact hF.2 _ _ (by omega) (by omega) (by omega)
  refine J_iload_n (pq := 10) dX2_takeLines_9 rfl rfl (J_aload_n (pq := 11) dX2_takeLines_10 rfl rfl (J_getA (pq := 14) dX2_takeLines_11 rfl f_X2_15 (by decide +kernel) (hKg.at rfl) (hXg _ _ _ rfl) (J_virtF (pq := 17) dX2_takeLines_14 rfl (j_X6_size hKg) rfl tg_X6_size l_X2_55 vi_X6_size (hKg.at rfl) ⟨by decide, rfl⟩ (Nat.le_of_ble_eq_true rfl) (Nat.zero_le _) (Nat.zero_le _) (Nat.le_of_ble_eq_true rfl) (J_icmp_gt (pq := 20) (tgt := 82) dX2_takeLines_17 rfl rfl (fun c => ?_) (fun c => ?_)))))
  · rw [gn, nI_ltI (by omega) (by omega)] at c
    have hp1 : p = n + 1 := hlast (by omega)
    refine bad g0 _ _ _ hF g40 g54 ?_
    rw [← hr]
    cases f with
    | zero => exact ⟨rfl, rfl⟩
    | succ f => rw [rdl, if_neg (by omega)]; exact ⟨rfl, rfl⟩
  rw [gn, nI_ltI (by omega) (by omega)] at c
  have hi : i ≤ n := by omega
  have hei := heo hi
  refine J_aload_n (pq := 21) dX2_takeLines_20 rfl rfl (J_getI (pq := 24) dX2_takeLines_21 rfl f_X2_72 jsZ (hKg.at rfl) (J_if_ne (pq := 27) (tgt := 82) dX2_takeLines_24 rfl rfl (fun c => ?_) (fun c => ?_)))
  · exact absurd g54 c
  refine J_aload_n (pq := 28) dX2_takeLines_27 rfl rfl (J_getA (pq := 31) dX2_takeLines_28 rfl f_X2_19 (by decide +kernel) (hKg.at rfl) (hXg _ _ _ rfl) (J_virtF (pq := 34) dX2_takeLines_31 rfl (j_isFault hKg) rfl tg_X1_isFault l_X2_51 vi_X1_isFault (hKg.at rfl) ⟨by decide, rfl⟩ (Nat.le_of_ble_eq_true rfl) (Nat.zero_le _) (Nat.zero_le _) (Nat.le_of_ble_eq_true rfl) (J_if_ne (pq := 37) (tgt := 82) dX2_takeLines_34 rfl rfl (fun c => ?_) (fun c => ?_))))
  · rw [g40] at c; exact absurd (by decide) c
  have hat := j_at (x := x) (k := i) hKg hXg gn hn4 (by omega)
  rw [gt] at hat
  obtain ⟨f, rfl⟩ : ∃ f', f = f' + 1 := ⟨f - 1, by omega⟩
  -- a line's end
  have lineEnd : (i = n ∨ t i = 10) → J x yX2_takeLines cX2_takeLines 5 none 5 0 0 (fun v g0 => v = none ∧ TsP R h g0) 60 [some (.ref 5), some (.int fI), some (.int (nI p)), some (.int (nI i)), some (.int (tat t n i))] [] g0 := fun hend => by
    have hq : eoln t n p = i := by rw [← hei]; exact eoln_e (fun q => hend.elim (fun z => by omega) (fun z => q.2 z))
    have hlb := lend_b (n := n) (t := t) hpi
    refine J_aload_n (pq := 61) dX2_takeLines_60 rfl rfl (J_iload_n (pq := 62) dX2_takeLines_61 rfl rfl (J_iload_n (pq := 63) dX2_takeLines_62 rfl rfl (J_aload_n (pq := 64) dX2_takeLines_63 rfl rfl (J_iload_n (pq := 65) dX2_takeLines_64 rfl rfl (J_iload_n (pq := 66) dX2_takeLines_65 rfl rfl (J_virtF (pq := 69) dX2_takeLines_66 rfl (j_stopOf hKg hXg gn hn4 gt hi hpi (fun q => hend.elim (fun z => by omega) (fun z => z))) rfl tg_X2_stopOf l_X2_76 vi_X2_stopOf (hKg.at rfl) ⟨by decide, rfl⟩ (Nat.le_of_ble_eq_true rfl) (Nat.zero_le _) (Nat.zero_le _) (Nat.le_of_ble_eq_true rfl) (?_)))))))
    by_cases hle : lend t n p i ≤ p
    · refine J_virtF (pq := 72) dX2_takeLines_69 rfl (j_takeLine_e hle (by omega)) rfl tg_X2_takeLine l_X2_79 vi_X2_takeLine (hKg.at rfl) ⟨by decide, rfl⟩ (Nat.le_of_ble_eq_true rfl) (Nat.zero_le _) (Nat.zero_le _) (Nat.le_of_ble_eq_true rfl) (J_iload_n (pq := 73) dX2_takeLines_72 rfl rfl (J_iconst (pq := 74) dX2_takeLines_73 rfl c_iconst_1 (J_iadd (pq := 75) dX2_takeLines_74 rfl (?_))))
      rw [nI_1]
      refine J_istore_m 2 (pq := 76) dX2_takeLines_75 rfl rfl (Nat.le_of_ble_eq_true rfl) (Nat.le_of_ble_eq_true rfl) rfl (J_iinc (pq := 79) dX2_takeLines_76 rfl c_iconst_1 rfl (Nat.le_of_ble_eq_true rfl) rfl (J_goto (tgt := 9) dX2_takeLines_79 rfl (?_)))
      rw [nI_1]
      refine J_weak (by simp [lsub]) rfl rfl (ih (g0, i + 1, i + 1, ct, im) ⟨hF, g40, g41, g54, g53, g6, Nat.le_refl _, by simp only; omega, fun _ => rfl, fun q => q, f, by simp only; omega, ?_⟩ (by simp only; omega))
      simp only
      rw [rdl, hq] at hr
      by_cases hpn : p < n
      · rw [if_pos hpn, if_neg (by omega)] at hr; exact hr
      · rw [if_neg hpn] at hr
        rw [← hr]
        cases f with
        | zero => rfl
        | succ f => rw [rdl, if_neg (by omega)]
    · have hpn : p < n := by omega
      rw [rdl, hq, if_pos hpn, if_pos (by omega)] at hr
      refine J_virt (pq := 72) dX2_takeLines_69 rfl (htl g0 p (lend t n p i) hKg hXg gn gt (by omega) (by omega)) rfl tg_X2_takeLine l_X2_79 vi_X2_takeLine (hKg.at rfl) ⟨by decide, rfl⟩ (Nat.le_of_ble_eq_true rfl) (Nat.zero_le _) (Nat.zero_le _) (Nat.le_of_ble_eq_true rfl) (fun v g hq => ?_)
      obtain ⟨rfl, hFl, hbad, hgood⟩ := hq
      have hF' := hF.tr hFl
      have hKg' : Kin g := hK.of2 hF'.1
      have hXg' : XR g := hX.of3 (by rw [hF'.1])
      have gn' : gi g 1 1 = nI n := by rw [hF'.2 _ _ (by omega) (by omega) (by omega)]; exact hn
      have h3 := lr_lt (fm := fm) (t := t) (a := p) (e := lend t n p i)
      refine J_iload_n (pq := 73) dX2_takeLines_72 rfl rfl (J_iconst (pq := 74) dX2_takeLines_73 rfl c_iconst_1 (J_iadd (pq := 75) dX2_takeLines_74 rfl (J_istore_m 2 (pq := 76) dX2_takeLines_75 rfl rfl (Nat.le_of_ble_eq_true rfl) (Nat.le_of_ble_eq_true rfl) rfl (J_iinc (pq := 79) dX2_takeLines_76 rfl c_iconst_1 rfl (Nat.le_of_ble_eq_true rfl) rfl (J_goto (tgt := 9) dX2_takeLines_79 rfl (?_))))))
      rw [nI_1]
      -- the loop is looked at once more
      by_cases hr0 : (lr fm t p (lend t n p i)).1 = 0
      · rw [if_pos hr0] at hr
        obtain ⟨y1, y2, y3, y4, y5⟩ := hgood hr0
        rw [g53, nI_add] at y4
        have y5' : ∀ j, gi g 6 j = imU t (lr fm t p (lend t n p i)) im j := fun j => by
          rw [y5 j]; unfold imU; rw [g6 j]
        by_cases h2 : (lr fm t p (lend t n p i)).2.1 = 2
        · rw [if_pos h2] at hr
          rw [if_pos h2] at y3
          have hT : TsP R h g := by
            rw [← hr]
            exact ⟨hF', by rw [y1, g40]; rfl, fun q => absurd rfl q, fun _ => ⟨by rw [y2, g41], y4, y5'⟩⟩
          refine J_iload_n (pq := 10) dX2_takeLines_9 rfl rfl (J_aload_n (pq := 11) dX2_takeLines_10 rfl rfl (J_getA (pq := 14) dX2_takeLines_11 rfl f_X2_15 (by decide +kernel) (hKg'.at rfl) (hXg' _ _ _ rfl) (J_virtF (pq := 17) dX2_takeLines_14 rfl (j_X6_size hKg') rfl tg_X6_size l_X2_55 vi_X6_size (hKg'.at rfl) ⟨by decide, rfl⟩ (Nat.le_of_ble_eq_true rfl) (Nat.zero_le _) (Nat.zero_le _) (Nat.le_of_ble_eq_true rfl) (J_icmp_gt (pq := 20) (tgt := 82) dX2_takeLines_17 rfl rfl (fun c => ?_) (fun c => ?_)))))
          · exact out g _ _ _ hKg' hXg' (Or.inl y3) hT
          refine J_aload_n (pq := 21) dX2_takeLines_20 rfl rfl (J_getI (pq := 24) dX2_takeLines_21 rfl f_X2_72 jsZ (hKg'.at rfl) (J_if_ne (pq := 27) (tgt := 82) dX2_takeLines_24 rfl rfl (fun c => ?_) (fun c => ?_)))
          · exact out g _ _ _ hKg' hXg' (Or.inl y3) hT
          · rw [y3] at c; exact absurd c (by decide)
        · rw [if_neg h2] at hr
          rw [if_neg h2, g54] at y3
          refine J_weak (by simp [lsub]) rfl rfl (ih (g, i + 1, i + 1, ct + (lr fm t p (lend t n p i)).2.2.2.1, imU t (lr fm t p (lend t n p i)) im) ⟨hF', by rw [y1, g40], by rw [y2, g41], y3, y4, y5', Nat.le_refl _, by simp only; omega, fun _ => rfl, fun q => q, f, by simp only; omega, hr⟩ (by simp only; omega))
      · rw [if_neg hr0] at hr
        obtain ⟨y1, y2, y3⟩ := hbad hr0
        rw [g54] at y3
        have hT : TsP R h g := by
          rw [← hr]
          exact ⟨hF', y1, fun _ => y2, fun q => absurd q hr0⟩
        have y1' : 0 < gi g 4 0 := by rw [y1, show (0 : Int32) = nI 0 from rfl, nI_ltI (by omega) (by omega)]; omega
        refine J_iload_n (pq := 10) dX2_takeLines_9 rfl rfl (J_aload_n (pq := 11) dX2_takeLines_10 rfl rfl (J_getA (pq := 14) dX2_takeLines_11 rfl f_X2_15 (by decide +kernel) (hKg'.at rfl) (hXg' _ _ _ rfl) (J_virtF (pq := 17) dX2_takeLines_14 rfl (j_X6_size hKg') rfl tg_X6_size l_X2_55 vi_X6_size (hKg'.at rfl) ⟨by decide, rfl⟩ (Nat.le_of_ble_eq_true rfl) (Nat.zero_le _) (Nat.zero_le _) (Nat.le_of_ble_eq_true rfl) (J_icmp_gt (pq := 20) (tgt := 82) dX2_takeLines_17 rfl rfl (fun c => ?_) (fun c => ?_)))))
        · exact out g _ _ _ hKg' hXg' (Or.inr ⟨y3, y1'⟩) hT
        refine J_aload_n (pq := 21) dX2_takeLines_20 rfl rfl (J_getI (pq := 24) dX2_takeLines_21 rfl f_X2_72 jsZ (hKg'.at rfl) (J_if_ne (pq := 27) (tgt := 82) dX2_takeLines_24 rfl rfl (fun c => ?_) (fun c => ?_)))
        · exact absurd y3 c
        refine J_aload_n (pq := 28) dX2_takeLines_27 rfl rfl (J_getA (pq := 31) dX2_takeLines_28 rfl f_X2_19 (by decide +kernel) (hKg'.at rfl) (hXg' _ _ _ rfl) (J_virtF (pq := 34) dX2_takeLines_31 rfl (j_isFault hKg') rfl tg_X1_isFault l_X2_51 vi_X1_isFault (hKg'.at rfl) ⟨by decide, rfl⟩ (Nat.le_of_ble_eq_true rfl) (Nat.zero_le _) (Nat.zero_le _) (Nat.le_of_ble_eq_true rfl) (J_if_ne (pq := 37) (tgt := 82) dX2_takeLines_34 rfl rfl (fun c => ?_) (fun c => ?_))))
        · exact out g _ _ _ hKg' hXg' (Or.inr ⟨y3, y1'⟩) hT
        · rw [bi_0, decide_eq_false_iff_not] at c; exact absurd y1' c
  refine J_aload_n (pq := 38) dX2_takeLines_37 rfl rfl (J_getA (pq := 41) dX2_takeLines_38 rfl f_X2_15 (by decide +kernel) (hKg.at rfl) (hXg _ _ _ rfl) (J_iload_n (pq := 42) dX2_takeLines_41 rfl rfl (J_virtF (pq := 45) dX2_takeLines_42 rfl (hat) rfl tg_X6_at l_X2_65 vi_X6_at (hKg.at rfl) ⟨by decide, rfl⟩ (Nat.le_of_ble_eq_true rfl) (Nat.zero_le _) (Nat.zero_le _) (Nat.le_of_ble_eq_true rfl) (J_istore (pq := 47) dX2_takeLines_45 rfl (Nat.le_of_ble_eq_true rfl) (Nat.le_of_ble_eq_true rfl) rfl (J_iload (pq := 49) dX2_takeLines_47 rfl rfl (J_bipush (pq := 51) dX2_takeLines_49 rfl c_bipush_10 (J_icmp_eq (pq := 54) (tgt := 60) dX2_takeLines_51 rfl rfl (fun c => ?_) (fun c => ?_))))))))
  · refine lineEnd ?_
    by_cases hh : i < n
    · right; unfold tat at c; rw [if_pos hh] at c; exact c
    · left; omega
  have c10 := c
  refine J_iload (pq := 56) dX2_takeLines_54 rfl rfl (J_iconst (pq := 57) dX2_takeLines_56 rfl c_iconst_m1 (J_icmp_ne (pq := 60) (tgt := 76) dX2_takeLines_57 rfl rfl (fun c => ?_) (fun c => ?_)))
  · have hh : i < n := by
      by_cases hh : i < n
      · exact hh
      · unfold tat at c; rw [if_neg hh] at c; exact absurd rfl c
    unfold tat at c10
    rw [if_pos hh] at c10
    refine J_iinc (pq := 79) dX2_takeLines_76 rfl c_iconst_1 rfl (Nat.le_of_ble_eq_true rfl) rfl (J_goto (tgt := 9) dX2_takeLines_79 rfl (?_))
    rw [nI_1]
    have es := eoln_s (t := t) (n := n) (p := i) ⟨hh, c10⟩
    refine J_weak (by simp [lsub]) rfl rfl (ih (g0, p, i + 1, ct, im) ⟨hF, g40, g41, g54, g53, g6, by simp only; omega, by simp only; omega, fun _ => by simp only; rw [← es]; exact hei, fun q => by simp only at q; omega, f + 1, hff, hr⟩ (by simp only; omega))
  · refine lineEnd ?_
    by_cases hh : i < n
    · exfalso
      unfold tat at c
      rw [if_pos hh] at c
      have := hby i (by omega)
      rw [c] at this
      exact absurd this (by decide)
    · left; omega
end G4
