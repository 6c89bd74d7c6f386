-- the class: a worker's steps
section C2
variable {x : JX} {h : JH} {z q d s e a : Nat} {dd : Int32}
abbrev cE (q a : Nat) (dd : Int32) (c : Cond) (w : JH × Nat × Bool × Nat) : JH × Nat × Bool × Nat := ex (xPu q a dd) (xRt q a dd) c w
def wsA (x : JX) (z T dp D : Nat) (F : JH × Nat × Bool × Nat) (p : Nat) (w : JH × Nat × Bool × Nat) : Prop :=
  if w.2.2.2 = 0 then w = F else J x yX7_workSteps cX7_workSteps 5 none D 0 0 (fun v g => v = none ∧ g = wS F.1 z F.2) 9 [some (.ref z), none, some (.int (nI T)), some (.int (nI dp)), some (.int (nI p))] [] (wS w.1 z w.2)
theorem ws_J {T dp D p : Nat} {F w : JH × Nat × Bool × Nat} (hB : WB h z q d s e a dd) (hI : Kp (pI q h) 100000 w) (hA : wsA x z T dp D F p w) : J x yX7_workSteps cX7_workSteps 5 none D 0 0 (fun v g => v = none ∧ g = wS F.1 z F.2) 9 [some (.ref z), none, some (.int (nI T)), some (.int (nI dp)), some (.int (nI p))] [] (wS w.1 z w.2) := by
  unfold wsA at hA
  by_cases h0 : w.2.2.2 = 0
  · rw [if_pos h0] at hA
    have k0 := (hB.of hI.1 w.2).1
    refine J_iload (pq := 11) dX7_workSteps_9 rfl rfl (J_iload_n (pq := 12) dX7_workSteps_11 rfl rfl (J_icmp_ge (pq := 15) (tgt := 50) dX7_workSteps_12 rfl rfl (fun c => ?_) (fun c => ?_)))
    · refine J_vret dX7_workSteps_50 rfl ?_
      exact ⟨rfl, by rw [hA]⟩
    · refine J_aload_n (pq := 16) dX7_workSteps_15 rfl rfl (J_getI (pq := 19) dX7_workSteps_16 rfl f_X7_19 jsI k0 (J_if_le (pq := 22) (tgt := 50) dX7_workSteps_19 rfl rfl (fun c => ?_) (fun c => ?_)))
      · refine J_vret dX7_workSteps_50 rfl ?_
        exact ⟨rfl, by rw [hA]⟩
      · rw [wS_2, h0] at c
        exact absurd (show (nI 0 : Int32) ≤ 0 by decide) c
  · rw [if_neg h0] at hA
    exact hA
theorem ws_step {T dp D i m e' : Nat} {F w w1 : JH × Nat × Bool × Nat} (hB : WB h z q d s e a dd) (hI : Kp (pI q h) 100000 w) (hI1 : Kp (pI q h) 100000 w1) (hT : i < T) (hTe : T ≤ e) (hb : gi h (d + 4) i = nI m) (hm : i < m) (hme : m ≤ e) (hD : 2 ≤ D) (h0 : w.2.2.2 ≠ 0) (he' : e' + 1 ≤ D)
    (hs : JF x yX7_workStep cX7_workStep 4 none e' 0 0 [.ref z, .int (nI i), .int (nI dp)] (wS w.1 z w.2) none (wS w1.1 z w1.2)) (hA : wsA x z T dp D F m w1) : wsA x z T dp D F i w := by
  have hL := hI.2
  unfold wsA
  rw [if_neg h0]
  obtain ⟨k0, r0, r1, a3, a4, hCK, hRK, ha8, hdq, hqz⟩ := hB.of hI.1 w.2
  have he := hRK.2.2
  refine J_iload (pq := 11) dX7_workSteps_9 rfl rfl (J_iload_n (pq := 12) dX7_workSteps_11 rfl rfl (J_icmp_ge (pq := 15) (tgt := 50) dX7_workSteps_12 rfl rfl (fun c => ?_) (fun c => ?_)))
  · rw [nI_leI (by omega) (by omega)] at c; omega
  · refine J_aload_n (pq := 16) dX7_workSteps_15 rfl rfl (J_getI (pq := 19) dX7_workSteps_16 rfl f_X7_19 jsI k0 (J_if_le (pq := 22) (tgt := 50) dX7_workSteps_19 rfl rfl (fun c => ?_) (fun c => ?_)))
    · rw [wS_2, show (0 : Int32) = nI 0 from rfl, nI_leI (by omega) (by omega)] at c; omega
    · refine J_aload_n (pq := 23) dX7_workSteps_22 rfl rfl (J_iload (pq := 25) dX7_workSteps_23 rfl rfl (J_iload_n (pq := 26) dX7_workSteps_25 rfl rfl (J_virtF (pq := 29) dX7_workSteps_26 rfl (hs) rfl tg_X7_workStep l_X7_45 vi_X7_workStep k0 ⟨by decide, rfl⟩ he' (Nat.zero_le _) (Nat.zero_le _) (Nat.le_of_ble_eq_true rfl) (?_))))
      obtain ⟨k0, r0, r1, a3, a4, hCK, hRK, ha8, hdq, hqz⟩ := hB.of hI1.1 w1.2
      have eb : gi (wS w1.1 z w1.2) (d + 4) i = nI m := by rw [wS_o (by omega), hI1.1.2 _ _ (by omega) (by omega)]; exact hb
      refine J_iload (pq := 31) dX7_workSteps_29 rfl rfl (J_iconst (pq := 32) dX7_workSteps_31 rfl c_iconst_1 (J_iadd (pq := 33) dX7_workSteps_32 rfl (J_aload_n (pq := 34) dX7_workSteps_33 rfl rfl (J_getA (pq := 37) dX7_workSteps_34 rfl f_X7_15 (by decide +kernel) k0 r1 (J_iload (pq := 39) dX7_workSteps_37 rfl rfl (J_virtF (pq := 42) dX7_workSteps_39 rfl (j_beh hRK (by omega)) rfl tg_X4_behindOf l_X7_49 vi_X4_behindOf hRK.1.1.1 ⟨by decide, rfl⟩ (by omega) (Nat.zero_le _) (Nat.zero_le _) (Nat.le_of_ble_eq_true rfl) (?_)))))))
      rw [eb, nI_1]
      refine J_statF (pq := 45) dX7_workSteps_42 rfl (j_max (by omega) (by omega)) rfl tg_J9_max_7cf53 l_X7_53 st_J9_max_7cf53 (by omega) (Nat.zero_le _) (Nat.zero_le _) (Nat.le_of_ble_eq_true rfl) (J_istore (pq := 47) dX7_workSteps_45 rfl (Nat.le_of_ble_eq_true rfl) (Nat.le_of_ble_eq_true rfl) rfl (J_goto (tgt := 9) dX7_workSteps_47 rfl (?_)))
      rw [show max (i + 1) m = m by omega]
      exact J_weak (by simp [lsub]) rfl rfl (ws_J hB hI1 hA)
def wsL (x : JX) (h : JH) (z q d s e a : Nat) (dd : Int32) (tc : Cond) : Prop := ∀ k i j, POK tc k → DS (gi h) d tc i j → j ≤ e → ∀ T dp D F w, j ≤ T → T ≤ e → dp + k ≤ 5 → 3 * k + 4 ≤ D → Kp (pI q h) 100000 w → wsA x z T dp D F j (cE q a dd tc w) → wsA x z T dp D F i w
theorem ws_fn {tc : Cond} (hV : wsL x h z q d s e a dd tc) (hPG : PG tc) (hB : WB h z q d s e a dd) {k i j dp D : Nat} {w : JH × Nat × Bool × Nat} (hO : POK tc k) (hS : DS (gi h) d tc i j) (hj : j ≤ e) (hdp : dp + k ≤ 5) (hD : 3 * k + 4 ≤ D) (hI : Kp (pI q h) 100000 w) : JF x yX7_workSteps cX7_workSteps 5 none D 0 0 [.ref z, .int (nI i), .int (nI j), .int (nI dp)] (wS w.1 z w.2) none (wS (cE q a dd tc w).1 z (cE q a dd tc w).2) := by
  have he := hB.2.2.2.2.2.2.1.2.2
  have hIe := ex_kp (R := xRt q a dd) (fun g v => pI_P (h := h) (q := q) (a := a) (dd := dd) g v) tc hPG w hI
  refine JM_of [some (.ref z), some (.int (nI i)), some (.int (nI j)), some (.int (nI dp)), none] (by decide) (Nat.le_of_ble_eq_true rfl) rfl ?_
  refine J_iload_n (pq := 1) dX7_workSteps_0 rfl rfl (J_iconst (pq := 2) dX7_workSteps_1 rfl c_iconst_5 (J_icmp_le (pq := 5) (tgt := 6) dX7_workSteps_2 rfl rfl (fun c => ?_) (fun c => ?_)))
  · refine J_iload_n (pq := 7) dX7_workSteps_6 rfl rfl (J_istore (pq := 9) dX7_workSteps_7 rfl (Nat.le_of_ble_eq_true rfl) (Nat.le_of_ble_eq_true rfl) rfl (?_))
    refine J_weak (by simp [lsub]) rfl rfl (ws_J hB hI (hV k i j hO hS hj j dp D (cE q a dd tc w) w (Nat.le_refl _) hj hdp hD hI ?_))
    unfold wsA
    by_cases h0 : (cE q a dd tc w).2.2.2 = 0
    · rw [if_pos h0]
    · rw [if_neg h0]
      refine J_iload (pq := 11) dX7_workSteps_9 rfl rfl (J_iload_n (pq := 12) dX7_workSteps_11 rfl rfl (J_icmp_ge (pq := 15) (tgt := 50) dX7_workSteps_12 rfl rfl (fun c => ?_) (fun c => ?_)))
      · refine J_vret dX7_workSteps_50 rfl ?_
        exact ⟨rfl, rfl⟩
      · exact absurd (Int32.le_refl _) c
  · rw [show (5 : Int32) = nI 5 from rfl, nI_leI (by omega) (by omega)] at c; omega
theorem wk1_leaf {k n i dp D : Nat} {w : JH × Nat × Bool × Nat} (hB : WB h z q d s e a dd) (hI : Kp (pI q h) 100000 w) (hi : i < e) (s1 : gi h (d + 1) i = nI k) (s2 : gi h (d + 2) i = nI n) (hk : (k = 0 ∧ n ≤ 30) ∨ (k = 1 ∧ 1 ≤ n ∧ n ≤ 50) ∨ (k = 2 ∧ n = 0)) (hD : 3 ≤ D) : JF x yX7_workStep cX7_workStep 4 none D 0 0 [.ref z, .int (nI i), .int (nI dp)] (wS w.1 z w.2) none (wS (lfs (xPu q a dd) (xRt q a dd) k n w).1 z (lfs (xPu q a dd) (xRt q a dd) k n w).2) := by
  refine JM_of [some (.ref z), some (.int (nI i)), some (.int (nI dp)), none] (by decide) (Nat.le_of_ble_eq_true rfl) rfl ?_
  obtain ⟨k0, r0, r1, a3, a4, hCK, hRK, ha8, hdq, hqz⟩ := hB.of hI.1 w.2
  have o1 : ∀ b c, b ≠ z → b ≠ q → ¬ (q + 3 ≤ b ∧ b ≤ q + 7) → gi (wS w.1 z w.2) b c = gi h b c := fun b c q1 q2 q3 => by rw [wS_o (fun z => q1 z.1), hI.1.2 _ _ (fun z => q2 z.1) q3]
  refine J_aload_n (pq := 1) dX7_workStep_0 rfl rfl (J_getA (pq := 4) dX7_workStep_1 rfl f_X7_15 (by decide +kernel) k0 r1 (J_iload_n (pq := 5) dX7_workStep_4 rfl rfl (J_virtF (pq := 8) dX7_workStep_5 rfl (j_kind hRK hi) rfl tg_X4_kindOf l_X7_59 vi_X4_kindOf hRK.1.1.1 ⟨by decide, rfl⟩ (by omega) (Nat.zero_le _) (Nat.zero_le _) (Nat.le_of_ble_eq_true rfl) (?_))))
  rw [o1 _ _ (by omega) (by omega) (by omega), s1]
  rcases hk with ⟨rfl, hn⟩ | ⟨rfl, hn⟩ | ⟨rfl, rfl⟩
  · refine J_tabIn (tgt := 40) dX7_workStep_8 (by decide) (by decide) rfl rfl ?_
    refine J_aload_n (pq := 41) dX7_workStep_40 rfl rfl (J_aload_n (pq := 42) dX7_workStep_41 rfl rfl (J_getA (pq := 45) dX7_workStep_42 rfl f_X7_15 (by decide +kernel) k0 r1 (J_iload_n (pq := 46) dX7_workStep_45 rfl rfl (J_virtF (pq := 49) dX7_workStep_46 rfl (j_num hRK hi) rfl tg_X4_numberOf l_X7_62 vi_X4_numberOf hRK.1.1.1 ⟨by decide, rfl⟩ (by omega) (Nat.zero_le _) (Nat.zero_le _) (Nat.le_of_ble_eq_true rfl) (?_)))))
    rw [o1 _ _ (by omega) (by omega) (by omega), s2]
    refine J_putI (pq := 52) dX7_workStep_49 rfl f_X7_29 (Or.inl rfl) k0 (J_goto (tgt := 153) dX7_workStep_52 rfl (J_vret dX7_workStep_153 rfl ?_))
    rw [wS_p5]
    exact ⟨rfl, rfl⟩
  · refine J_tabIn (tgt := 55) dX7_workStep_8 (by decide) (by decide) rfl rfl ?_
    refine J_aload_n (pq := 56) dX7_workStep_55 rfl rfl (J_aload_n (pq := 57) dX7_workStep_56 rfl rfl (J_getA (pq := 60) dX7_workStep_57 rfl f_X7_15 (by decide +kernel) k0 r1 (J_iload_n (pq := 61) dX7_workStep_60 rfl rfl (J_virtF (pq := 64) dX7_workStep_61 rfl (j_num hRK hi) rfl tg_X4_numberOf l_X7_62 vi_X4_numberOf hRK.1.1.1 ⟨by decide, rfl⟩ (by omega) (Nat.zero_le _) (Nat.zero_le _) (Nat.le_of_ble_eq_true rfl) (?_)))))
    rw [o1 _ _ (by omega) (by omega) (by omega), s2]
    refine J_virtF (pq := 67) dX7_workStep_64 rfl (j_give hB hI hn.2) rfl tg_X7_givePulses l_X7_65 vi_X7_givePulses k0 ⟨by decide, rfl⟩ (by omega) (Nat.zero_le _) (Nat.zero_le _) (Nat.le_of_ble_eq_true rfl) (J_goto (tgt := 153) dX7_workStep_67 rfl (J_vret dX7_workStep_153 rfl ?_))
    exact ⟨rfl, rfl⟩
  · refine J_tabIn (tgt := 70) dX7_workStep_8 (by decide) (by decide) rfl rfl ?_
    refine J_aload_n (pq := 71) dX7_workStep_70 rfl rfl (J_aload_n (pq := 72) dX7_workStep_71 rfl rfl (J_getA (pq := 75) dX7_workStep_72 rfl f_X7_9 (by decide +kernel) k0 r0 (J_aload_n (pq := 76) dX7_workStep_75 rfl rfl (J_getI (pq := 79) dX7_workStep_76 rfl f_X7_23 jsI k0 (J_aload_n (pq := 80) dX7_workStep_79 rfl rfl (J_getI (pq := 83) dX7_workStep_80 rfl f_X7_26 jsI k0 (?_)))))))
    rw [a3, a4]
    refine J_virtF (pq := 86) dX7_workStep_83 rfl (j_X0_isRight hCK ha8) rfl tg_X0_isRight l_X7_69 vi_X0_isRight hCK.1.1 ⟨by decide, rfl⟩ (by omega) (Nat.zero_le _) (Nat.zero_le _) (Nat.le_of_ble_eq_true rfl) (J_putZ (pq := 89) dX7_workStep_86 rfl f_X7_32 (Or.inl rfl) k0 (by first | exact bi_or _ | exact Or.inl rfl | exact Or.inr rfl | assumption) (J_goto (tgt := 153) dX7_workStep_89 rfl (J_vret dX7_workStep_153 rfl ?_)))
    rw [wS_p6, wS_o (by omega), wS_o (by omega)]
    exact ⟨rfl, rfl⟩
theorem wk1_try {b : Cond} {n i m dp D : Nat} {w : JH × Nat × Bool × Nat} (hPG : PG b) (hB : WB h z q d s e a dd) (hI : Kp (pI q h) 100000 w) (hi : i < e) (hn50 : n ≤ 50) (s1 : gi h (d + 1) i = nI 3) (s2 : gi h (d + 2) i = nI n) (s3 : gi h (d + 4) i = nI m) (hD : 3 ≤ D) (hb : ∀ u, Kp (pI q h) 100000 u → JF x yX7_workSteps cX7_workSteps 5 none (D - 1) 0 0 [.ref z, .int (nI (i + 1)), .int (nI m), .int (nI (dp + 1))] (wS u.1 z u.2) none (wS (cE q a dd b u).1 z (cE q a dd b u).2)) : JF x yX7_workStep cX7_workStep 4 none D 0 0 [.ref z, .int (nI i), .int (nI dp)] (wS w.1 z w.2) none (wS (trs (cE q a dd b) n w).1 z (trs (cE q a dd b) n w).2) := by
  refine JM_of [some (.ref z), some (.int (nI i)), some (.int (nI dp)), none] (by decide) (Nat.le_of_ble_eq_true rfl) rfl ?_
  obtain ⟨k0, r0, r1, a3, a4, hCK, hRK, ha8, hdq, hqz⟩ := hB.of hI.1 w.2
  have he := hRK.2.2
  have o1 : ∀ u, Kp (pI q h) 100000 u → ∀ b c, b ≠ z → b ≠ q → ¬ (q + 3 ≤ b ∧ b ≤ q + 7) → gi (wS u.1 z u.2) b c = gi h b c := fun u hu b c q1 q2 q3 => by rw [wS_o (fun z => q1 z.1), hu.1.2 _ _ (fun z => q2 z.1) q3]
  refine J_aload_n (pq := 1) dX7_workStep_0 rfl rfl (J_getA (pq := 4) dX7_workStep_1 rfl f_X7_15 (by decide +kernel) k0 r1 (J_iload_n (pq := 5) dX7_workStep_4 rfl rfl (J_virtF (pq := 8) dX7_workStep_5 rfl (j_kind hRK hi) rfl tg_X4_kindOf l_X7_59 vi_X4_kindOf hRK.1.1.1 ⟨by decide, rfl⟩ (by omega) (Nat.zero_le _) (Nat.zero_le _) (Nat.le_of_ble_eq_true rfl) (?_))))
  rw [o1 w hI _ _ (by omega) (by omega) (by omega), s1]
  refine J_tabIn (tgt := 92) dX7_workStep_8 (by decide) (by decide) rfl rfl ?_
  refine J_iconst (pq := 93) dX7_workStep_92 rfl c_iconst_0 (J_istore_m 3 (pq := 94) dX7_workStep_93 rfl rfl (Nat.le_of_ble_eq_true rfl) (Nat.le_of_ble_eq_true rfl) rfl (?_))
  refine J_loop (σ := Nat × (JH × Nat × Bool × Nat)) (fun u => [some (.ref z), some (.int (nI i)), some (.int (nI dp)), some (.int (nI u.1))]) (fun _ => []) (fun u => wS u.2.1 z u.2.2) (fun u => u.1 ≤ n ∧ Kp (pI q h) 100000 u.2 ∧ trs (cE q a dd b) (n - u.1) u.2 = trs (cE q a dd b) n w) (fun u => n - u.1) (0, w) rfl rfl rfl ⟨Nat.zero_le _, hI, rfl⟩ (fun u hu ih => ?_)
  obtain ⟨t, u⟩ := u
  obtain ⟨u1, u2, u3⟩ := hu
  simp only at u1 u2 u3 ih ⊢
  have hL := u2.2
  obtain ⟨k0, r0, r1, a3, a4, hCK, hRK, ha8, hdq, hqz⟩ := hB.of u2.1 u.2
  have fin : u = trs (cE q a dd b) n w → J x yX7_workStep cX7_workStep 4 none D 0 0 (fun v g => v = none ∧ g = wS (trs (cE q a dd b) n w).1 z (trs (cE q a dd b) n w).2) 144 [some (.ref z), some (.int (nI i)), some (.int (nI dp)), some (.int (nI t))] [] (wS u.1 z u.2) := fun hf => by
    refine J_goto (tgt := 153) dX7_workStep_144 rfl (J_vret dX7_workStep_153 rfl ?_)
    exact ⟨rfl, by rw [hf]⟩
  refine J_iload_n (pq := 95) dX7_workStep_94 rfl rfl (J_aload_n (pq := 96) dX7_workStep_95 rfl rfl (J_getA (pq := 99) dX7_workStep_96 rfl f_X7_15 (by decide +kernel) k0 r1 (J_iload_n (pq := 100) dX7_workStep_99 rfl rfl (J_virtF (pq := 103) dX7_workStep_100 rfl (j_num hRK hi) rfl tg_X4_numberOf l_X7_62 vi_X4_numberOf hRK.1.1.1 ⟨by decide, rfl⟩ (by omega) (Nat.zero_le _) (Nat.zero_le _) (Nat.le_of_ble_eq_true rfl) (?_)))))
  rw [o1 u u2 _ _ (by omega) (by omega) (by omega), s2]
  refine J_icmp_ge (pq := 106) (tgt := 144) dX7_workStep_103 rfl rfl (fun c => ?_) (fun c => ?_)
  · rw [nI_leI (by omega) (by omega)] at c
    rw [show n - t = 0 by omega] at u3
    exact fin u3
  · rw [nI_leI (by omega) (by omega)] at c
    have htn : t < n := by omega
    refine J_aload_n (pq := 107) dX7_workStep_106 rfl rfl (J_getI (pq := 110) dX7_workStep_107 rfl f_X7_32 jsZ k0 (J_if_ne (pq := 113) (tgt := 144) dX7_workStep_110 rfl rfl (fun c => ?_) (fun c => ?_)))
    · rw [wS_6, bi_0, Bool.not_eq_false] at c
      rw [trs_0 _ _ _ (Or.inr c)] at u3
      exact fin u3
    · rw [wS_6, bi_0] at c
      have c1 := c
      refine J_aload_n (pq := 114) dX7_workStep_113 rfl rfl (J_getI (pq := 117) dX7_workStep_114 rfl f_X7_19 jsI k0 (J_if_le (pq := 120) (tgt := 144) dX7_workStep_117 rfl rfl (fun c => ?_) (fun c => ?_)))
      · rw [wS_2, show (0 : Int32) = nI 0 from rfl, nI_leI (by omega) (by omega)] at c
        rw [trs_0 _ _ _ (Or.inl (by omega))] at u3
        exact fin u3
      · rw [wS_2, show (0 : Int32) = nI 0 from rfl, nI_leI (by omega) (by omega)] at c
        refine J_aload_n (pq := 121) dX7_workStep_120 rfl rfl (J_iload_n (pq := 122) dX7_workStep_121 rfl rfl (J_iconst (pq := 123) dX7_workStep_122 rfl c_iconst_1 (J_iadd (pq := 124) dX7_workStep_123 rfl (J_aload_n (pq := 125) dX7_workStep_124 rfl rfl (J_getA (pq := 128) dX7_workStep_125 rfl f_X7_15 (by decide +kernel) k0 r1 (J_iload_n (pq := 129) dX7_workStep_128 rfl rfl (J_virtF (pq := 132) dX7_workStep_129 rfl (j_beh hRK hi) rfl tg_X4_behindOf l_X7_49 vi_X4_behindOf hRK.1.1.1 ⟨by decide, rfl⟩ (by omega) (Nat.zero_le _) (Nat.zero_le _) (Nat.le_of_ble_eq_true rfl) (?_))))))))
        rw [o1 u u2 _ _ (by omega) (by omega) (by omega), s3, nI_1]
        refine J_iload_n (pq := 133) dX7_workStep_132 rfl rfl (J_iconst (pq := 134) dX7_workStep_133 rfl c_iconst_1 (J_iadd (pq := 135) dX7_workStep_134 rfl (?_)))
        rw [nI_1]
        refine J_virtF (pq := 138) dX7_workStep_135 rfl (hb u u2) rfl tg_X7_workSteps l_X7_41 vi_X7_workSteps k0 ⟨by decide, rfl⟩ (by omega) (Nat.zero_le _) (Nat.zero_le _) (Nat.le_of_ble_eq_true rfl) (J_iinc (pq := 141) dX7_workStep_138 rfl c_iconst_1 rfl (Nat.le_of_ble_eq_true rfl) rfl (J_goto (tgt := 94) dX7_workStep_141 rfl (?_)))
        rw [nI_1]
        refine ih (t + 1, cE q a dd b u) ⟨by simp only; omega, ex_kp (fun g v => pI_P (h := h) (q := q) (a := a) (dd := dd) g v) b hPG u u2, ?_⟩ (by simp only; omega)
        rw [← u3, show n - t = (n - (t + 1)) + 1 by omega]
        show _ = (if u.2.2.2 = 0 ∨ u.2.2.1 = true then u else _)
        rw [if_neg (by rw [c1]; simp; omega)]
theorem wk1_ok {b1 b2 : Cond} {i m1 m2 dp D : Nat} {w : JH × Nat × Bool × Nat} (hB : WB h z q d s e a dd) (hI : Kp (pI q h) 100000 w) (hi : i < e) (s1 : gi h (d + 1) i = nI 4) (s2 : gi h (d + 3) i = nI m1) (s3 : gi h (d + 4) i = nI m2) (hD : 4 ≤ D) (hb1 : JF x yX7_workSteps cX7_workSteps 5 none (D - 2) 0 0 [.ref z, .int (nI (i + 1)), .int (nI m1), .int (nI (dp + 1))] (wS w.1 z w.2) none (wS (cE q a dd b1 w).1 z (cE q a dd b1 w).2)) (hb2 : JF x yX7_workSteps cX7_workSteps 5 none (D - 2) 0 0 [.ref z, .int (nI m1), .int (nI m2), .int (nI (dp + 1))] (wS w.1 z w.2) none (wS (cE q a dd b2 w).1 z (cE q a dd b2 w).2)) : JF x yX7_workStep cX7_workStep 4 none D 0 0 [.ref z, .int (nI i), .int (nI dp)] (wS w.1 z w.2) none (wS (if w.2.2.1 = true then cE q a dd b1 w else cE q a dd b2 w).1 z (if w.2.2.1 = true then cE q a dd b1 w else cE q a dd b2 w).2) := by
  obtain ⟨k0, r0, r1, a3, a4, hCK, hRK, ha8, hdq, hqz⟩ := hB.of hI.1 w.2
  have he := hRK.2.2
  have o1 : ∀ b c, b ≠ z → b ≠ q → ¬ (q + 3 ≤ b ∧ b ≤ q + 7) → gi (wS w.1 z w.2) b c = gi h b c := fun b c q1 q2 q3 => by rw [wS_o (fun z => q1 z.1), hI.1.2 _ _ (fun z => q2 z.1) q3]
  have hbr : JF x yX7_workBranch cX7_workBranch 3 none (D - 1) 0 0 [.ref z, .int (nI i), .int (nI dp)] (wS w.1 z w.2) none (wS (if w.2.2.1 = true then cE q a dd b1 w else cE q a dd b2 w).1 z (if w.2.2.1 = true then cE q a dd b1 w else cE q a dd b2 w).2) := by
    refine JM_of [some (.ref z), some (.int (nI i)), some (.int (nI dp))] (by decide) (Nat.le_of_ble_eq_true rfl) rfl ?_
    refine J_aload_n (pq := 1) dX7_workBranch_0 rfl rfl (J_getI (pq := 4) dX7_workBranch_1 rfl f_X7_32 jsZ k0 (J_if_eq (pq := 7) (tgt := 28) dX7_workBranch_4 rfl rfl (fun c => ?_) (fun c => ?_)))
    · rw [wS_6, bi_0] at c
      refine J_aload_n (pq := 29) dX7_workBranch_28 rfl rfl (J_aload_n (pq := 30) dX7_workBranch_29 rfl rfl (J_getA (pq := 33) dX7_workBranch_30 rfl f_X7_15 (by decide +kernel) k0 r1 (J_iload_n (pq := 34) dX7_workBranch_33 rfl rfl (J_virtF (pq := 37) dX7_workBranch_34 rfl (j_els hRK hi) rfl tg_X4_otherwiseOf l_X7_78 vi_X4_otherwiseOf hRK.1.1.1 ⟨by decide, rfl⟩ (by omega) (Nat.zero_le _) (Nat.zero_le _) (Nat.le_of_ble_eq_true rfl) (?_)))))
      rw [o1 _ _ (by omega) (by omega) (by omega), s2]
      refine J_aload_n (pq := 38) dX7_workBranch_37 rfl rfl (J_getA (pq := 41) dX7_workBranch_38 rfl f_X7_15 (by decide +kernel) k0 r1 (J_iload_n (pq := 42) dX7_workBranch_41 rfl rfl (J_virtF (pq := 45) dX7_workBranch_42 rfl (j_beh hRK hi) rfl tg_X4_behindOf l_X7_49 vi_X4_behindOf hRK.1.1.1 ⟨by decide, rfl⟩ (by omega) (Nat.zero_le _) (Nat.zero_le _) (Nat.le_of_ble_eq_true rfl) (?_))))
      rw [o1 _ _ (by omega) (by omega) (by omega), s3]
      refine J_iload_n (pq := 46) dX7_workBranch_45 rfl rfl (J_iconst (pq := 47) dX7_workBranch_46 rfl c_iconst_1 (J_iadd (pq := 48) dX7_workBranch_47 rfl (?_)))
      rw [nI_1]
      refine J_virtF (pq := 51) dX7_workBranch_48 rfl (hb2) rfl tg_X7_workSteps l_X7_41 vi_X7_workSteps k0 ⟨by decide, rfl⟩ (by omega) (Nat.zero_le _) (Nat.zero_le _) (Nat.le_of_ble_eq_true rfl) (J_vret dX7_workBranch_51 rfl ?_)
      rw [if_neg (by rw [c]; decide)]
      exact ⟨rfl, rfl⟩
    · rw [wS_6, bi_0, Bool.not_eq_false] at c
      refine J_aload_n (pq := 8) dX7_workBranch_7 rfl rfl (J_iload_n (pq := 9) dX7_workBranch_8 rfl rfl (J_iconst (pq := 10) dX7_workBranch_9 rfl c_iconst_1 (J_iadd (pq := 11) dX7_workBranch_10 rfl (J_aload_n (pq := 12) dX7_workBranch_11 rfl rfl (J_getA (pq := 15) dX7_workBranch_12 rfl f_X7_15 (by decide +kernel) k0 r1 (J_iload_n (pq := 16) dX7_workBranch_15 rfl rfl (J_virtF (pq := 19) dX7_workBranch_16 rfl (j_els hRK hi) rfl tg_X4_otherwiseOf l_X7_78 vi_X4_otherwiseOf hRK.1.1.1 ⟨by decide, rfl⟩ (by omega) (Nat.zero_le _) (Nat.zero_le _) (Nat.le_of_ble_eq_true rfl) (?_))))))))
      rw [o1 _ _ (by omega) (by omega) (by omega), s2, nI_1]
      refine J_iload_n (pq := 20) dX7_workBranch_19 rfl rfl (J_iconst (pq := 21) dX7_workBranch_20 rfl c_iconst_1 (J_iadd (pq := 22) dX7_workBranch_21 rfl (?_)))
      rw [nI_1]
      refine J_virtF (pq := 25) dX7_workBranch_22 rfl (hb1) rfl tg_X7_workSteps l_X7_41 vi_X7_workSteps k0 ⟨by decide, rfl⟩ (by omega) (Nat.zero_le _) (Nat.zero_le _) (Nat.le_of_ble_eq_true rfl) (J_goto (tgt := 51) dX7_workBranch_25 rfl (J_vret dX7_workBranch_51 rfl ?_))
      rw [if_pos c]
      exact ⟨rfl, rfl⟩
  refine JM_of [some (.ref z), some (.int (nI i)), some (.int (nI dp)), none] (by decide) (Nat.le_of_ble_eq_true rfl) rfl ?_
  refine J_aload_n (pq := 1) dX7_workStep_0 rfl rfl (J_getA (pq := 4) dX7_workStep_1 rfl f_X7_15 (by decide +kernel) k0 r1 (J_iload_n (pq := 5) dX7_workStep_4 rfl rfl (J_virtF (pq := 8) dX7_workStep_5 rfl (j_kind hRK hi) rfl tg_X4_kindOf l_X7_59 vi_X4_kindOf hRK.1.1.1 ⟨by decide, rfl⟩ (by omega) (Nat.zero_le _) (Nat.zero_le _) (Nat.le_of_ble_eq_true rfl) (?_))))
  rw [o1 _ _ (by omega) (by omega) (by omega), s1]
  refine J_tabOut (tgt := 147) dX7_workStep_8 (by decide) rfl ?_
  refine J_aload_n (pq := 148) dX7_workStep_147 rfl rfl (J_iload_n (pq := 149) dX7_workStep_148 rfl rfl (J_iload_n (pq := 150) dX7_workStep_149 rfl rfl (J_virtF (pq := 153) dX7_workStep_150 rfl (hbr) rfl tg_X7_workBranch l_X7_75 vi_X7_workBranch k0 ⟨by decide, rfl⟩ (by omega) (Nat.zero_le _) (Nat.zero_le _) (Nat.le_of_ble_eq_true rfl) (J_vret dX7_workStep_153 rfl ?_))))
  exact ⟨rfl, rfl⟩
theorem ws_all (hB : WB h z q d s e a dd) : ∀ tc, PG tc → wsL x h z q d s e a dd tc :=
  P_ind (fun k i j _ hS _ T dp D F w _ _ _ _ _ hA => by
      have hS : i = j := hS
      subst hS
      exact hA)
    (fun k n r hr ih kk i j hO hS hj T dp D F w hT hTe hdp hD hI hA => by
      obtain ⟨h1, h2⟩ : ((k = 0 ∧ n ≤ 30) ∨ (k = 1 ∧ 1 ≤ n ∧ n ≤ 50) ∨ (k = 2 ∧ n = 0)) ∧ POK r kk := hO
      have hS : gi h (d + 1) i = nI k ∧ gi h (d + 2) i = nI n ∧ gi h (d + 4) i = nI (i + 1) ∧ DS (gi h) d r (i + 1) j := hS
      obtain ⟨s1, s2, s3, s4⟩ := hS
      have hle := DS_le r hr _ _ s4
      by_cases h0 : w.2.2.2 = 0
      · rw [show cE q a dd (pL k n r) w = w from by rw [cE, ex_L, if_pos h0]] at hA
        unfold wsA at hA ⊢
        rw [if_pos h0] at hA ⊢
        exact hA
      · have hI1 := lfs_kp (R := xRt q a dd) (fun g v => pI_P (h := h) (q := q) (a := a) (dd := dd) g v) k n w hI
        refine ws_step (e' := 3) hB hI hI1 (by omega) hTe s3 (by omega) (by omega) (by omega) h0 (by omega) (wk1_leaf hB hI (by omega) s1 s2 h1 (by omega)) (ih kk (i + 1) j h2 s4 hj T dp D F _ hT hTe hdp hD hI1 ?_)
        rw [show cE q a dd (pL k n r) w = cE q a dd r (lfs (xPu q a dd) (xRt q a dd) k n w) from by rw [cE, ex_L, if_neg h0]] at hA
        exact hA)
    (fun n b r hb hr ihb ihr kk i j hO hS hj T dp D F w hT hTe hdp hD hI hA => by
      obtain ⟨h1, h2, h3, h4⟩ : (1 ≤ n ∧ n ≤ 50) ∧ 0 < kk ∧ POK b (kk - 1) ∧ POK r kk := hO
      have hS : ∃ m, gi h (d + 1) i = nI 3 ∧ gi h (d + 2) i = nI n ∧ gi h (d + 4) i = nI m ∧ DS (gi h) d b (i + 1) m ∧ DS (gi h) d r m j := hS
      obtain ⟨m, s1, s2, s3, s4, s5⟩ := hS
      have l1 := DS_le b hb _ _ s4
      have l2 := DS_le r hr _ _ s5
      by_cases h0 : w.2.2.2 = 0
      · rw [show cE q a dd (pT n b r) w = w from by rw [cE, ex_T, if_pos h0]] at hA
        unfold wsA at hA ⊢
        rw [if_pos h0] at hA ⊢
        exact hA
      · have hIb : ∀ u, Kp (pI q h) 100000 u → Kp (pI q h) 100000 (cE q a dd b u) := fun u hu => ex_kp (fun g v => pI_P (h := h) (q := q) (a := a) (dd := dd) g v) b hb u hu
        have hI1 := trs_kp hIb n w hI
        refine ws_step (e' := D - 1) hB hI hI1 (by omega) hTe s3 (by omega) (by omega) (by omega) h0 (by omega) (wk1_try hb hB hI (by omega) h1.2 s1 s2 s3 (by omega) (fun u hu => ws_fn ihb hb hB h3 s4 (by omega) (by omega) (by omega) hu)) (ihr kk m j h4 s5 hj T dp D F _ hT hTe hdp hD hI1 ?_)
        rw [show cE q a dd (pT n b r) w = cE q a dd r (trs (cE q a dd b) n w) from by rw [cE, ex_T, if_neg h0]] at hA
        exact hA)
    (fun b1 b2 r hb1 hb2 hr ih1 ih2 ihr kk i j hO hS hj T dp D F w hT hTe hdp hD hI hA => by
      obtain ⟨h1, h2, h3, h4⟩ : 0 < kk ∧ POK b1 (kk - 1) ∧ POK b2 (kk - 1) ∧ POK r kk := hO
      have hS : ∃ m1 m2, gi h (d + 1) i = nI 4 ∧ gi h (d + 3) i = nI m1 ∧ gi h (d + 4) i = nI m2 ∧ DS (gi h) d b1 (i + 1) m1 ∧ DS (gi h) d b2 m1 m2 ∧ DS (gi h) d r m2 j := hS
      obtain ⟨m1, m2, s1, s2, s3, s4, s5, s6⟩ := hS
      have l1 := DS_le b1 hb1 _ _ s4
      have l2 := DS_le b2 hb2 _ _ s5
      have l3 := DS_le r hr _ _ s6
      by_cases h0 : w.2.2.2 = 0
      · rw [show cE q a dd (pO b1 b2 r) w = w from by rw [cE, ex_O, if_pos h0]] at hA
        unfold wsA at hA ⊢
        rw [if_pos h0] at hA ⊢
        exact hA
      · have hI1 : Kp (pI q h) 100000 (if w.2.2.1 = true then cE q a dd b1 w else cE q a dd b2 w) := by
          split
          · exact ex_kp (fun g v => pI_P (h := h) (q := q) (a := a) (dd := dd) g v) b1 hb1 w hI
          · exact ex_kp (fun g v => pI_P (h := h) (q := q) (a := a) (dd := dd) g v) b2 hb2 w hI
        refine ws_step (e' := D - 1) hB hI hI1 (by omega) hTe s3 (by omega) (by omega) (by omega) h0 (by omega) (wk1_ok hB hI (by omega) s1 s2 s3 (by omega) (ws_fn ih1 hb1 hB h2 s4 (by omega) (by omega) (by omega) hI) (ws_fn ih2 hb2 hB h3 s5 (by omega) (by omega) (by omega) hI)) (ihr kk m2 j h4 s6 hj T dp D F _ hT hTe hdp hD hI1 ?_)
        rw [show cE q a dd (pO b1 b2 r) w = cE q a dd r (if w.2.2.1 = true then cE q a dd b1 w else cE q a dd b2 w) from by rw [cE, ex_O, if_neg h0]] at hA
        exact hA)
end C2
