-- the most volts of a recipe
theorem pv_le {b V : Nat} (hb : b < 1000) (hV : V < 1000) : nI b ≤ nI V - 1 ↔ b + 1 ≤ V := by
  have h1 : (nI V - 1).toInt = (V : Int) - 1 := by
    rw [ti_sub] <;> rw [nI_toInt (by omega)] <;> simp <;> omega
  rw [Int32.le_iff_toInt_le, h1, nI_toInt (by omega)]
  omega
theorem tv_30 : ∀ c, PG c → ∀ d, POK c d → ∀ v, v ≤ 30 → tv c v ≤ 30 ∧ tq c v ≤ 31 :=
  P_ind (fun d _ v hv => ⟨hv, by rw [tq_N]; omega⟩)
    (fun k n r hr ih d hO v hv => by
      obtain ⟨h1, h2⟩ : ((k = 0 ∧ n ≤ 30) ∨ (k = 1 ∧ 1 ≤ n ∧ n ≤ 50) ∨ (k = 2 ∧ n = 0)) ∧ POK r d := hO
      have := ih d h2 (if k = 0 then n else v) (by split <;> omega)
      rw [tv_L, tq_L]
      refine ⟨this.1, ?_⟩
      by_cases hk : k = 1
      · rw [if_pos hk]; omega
      · rw [if_neg hk]; omega)
    (fun n b r hb hr ihb ihr d hO v hv => by
      obtain ⟨h1, h2, h3, h4⟩ : (1 ≤ n ∧ n ≤ 50) ∧ 0 < d ∧ POK b (d - 1) ∧ POK r d := hO
      have q1 := ihb _ h3 v hv
      have q2 := ihr _ h4 (max v (tv b v)) (by omega)
      have q3 := ihb _ h3 (if n ≤ 1 then v else max v (tv b v)) (by split <;> omega)
      rw [tv_T, tq_T]
      exact ⟨q2.1, by omega⟩)
    (fun a b r ha hb hr iha ihb ihr d hO v hv => by
      obtain ⟨h1, h2, h3, h4⟩ : 0 < d ∧ POK a (d - 1) ∧ POK b (d - 1) ∧ POK r d := hO
      have q1 := iha _ h2 v hv
      have q2 := ihb _ h3 v hv
      have q3 := ihr _ h4 (max (tv a v) (tv b v)) (by omega)
      rw [tv_O, tq_O]
      exact ⟨q3.1, by omega⟩)
section P10
variable {x : JX} {h : JH}
theorem odE_n {G : Nat → Nat → Int32} {b k : Nat} (hV : OV G b k) : ∀ e, e ∈ odE G b k → ∀ n, e.2 = some n → n < 32 := by
  intro e he n hn
  unfold odE at he
  split at he
  · rename_i h0
    rw [List.mem_singleton] at he
    subst he
    obtain ⟨m, hm, h64⟩ := hV.1 h0
    rw [h64, ixn (by omega)] at hn
    cases hn
    omega
  · repeat' split at he
    all_goals
      simp only [List.mem_cons, List.not_mem_nil, or_false] at he
      first
        | (subst he; cases hn)
        | (rcases he with rfl | rfl <;> cases hn)
set_option maxHeartbeats 1000000 in
theorem j_X9_mostVolts {r e : Nat} {tc : Cond} (hK : Kin h) (hR : MR h) (hr : r < 4) (hM : MRec (gi h) r tc e) (hO : POK tc 5) : JM x yX9_mostVolts cX9_mostVolts 5 (some .int) 2 0 0 [.ref 38, .int (nI r)] h (fun v g => v = some (.int (nI (tq tc 0) - 1)) ∧ ∃ s, g = sC h s) := by
  obtain ⟨hPG, he40, o, hoe, h61, -, -, -, hMS⟩ := hM
  obtain ⟨M, m0, -, m3⟩ := volts_le tc hPG 5 0 o hO hMS (by omega) 0
  refine JM_of [some (.ref 38), some (.int (nI r)), none, none, none] (by decide) (Nat.le_of_ble_eq_true rfl) rfl ?_
  have hbr : vp_in (nI r) 5 := vp_in_nI (by omega) (by omega)
  have hxr : ix (nI r) = r := ixn (by omega)
  have hrb : (100 : Int32) * nI r = nI (100 * r) := by rw [show (100 : Int32) = nI 100 from rfl, pk_mul]
  have e61 : ∀ s, gi (sC h s) 61 (ix (nI r)) = nI o := fun s => by rw [hxr, sC_o (by decide) (by simp)]; exact h61
  have hE1 : ∀ k, k < o → ∀ e, e ∈ odE (gi h) (100 * r) k → e.1 ≤ 100 := fun k hk e he => by have := (m3 k (by omega) hk).2.1 e he; have := this.2.1; omega
  -- what has come is wiped
  refine J_cut (σ := Unit) 21 (fun _ => [some (.ref 38), some (.int (nI r)), none, none, none]) (fun _ => []) (fun _ => sC h (fun j => if j < 101 then 0 else gi h 74 j, gi h 38 53)) (fun _ => True) (fun _ _ => ?_) (fun k21 => ?_)
  rotate_left
  · refine J_iconst (pq := 1) dX9_mostVolts_0 rfl c_iconst_0 (J_istore_m 2 (pq := 2) dX9_mostVolts_1 rfl rfl (Nat.le_of_ble_eq_true rfl) (Nat.le_of_ble_eq_true rfl) rfl (?_))
    refine J_loop (σ := Nat) (fun k => [some (.ref 38), some (.int (nI r)), some (.int (nI k)), none, none]) (fun _ => []) (fun k => sC h (fun j => if j < k then 0 else gi h 74 j, gi h 38 53)) (fun k => k ≤ 101) (fun k => 101 - k) 0 rfl rfl (JH_ext rfl (fun a b => by
      rw [gi_sC]
      by_cases h1 : a = 74
      · rw [if_pos h1]; simp [h1]
      · rw [if_neg h1]
        by_cases h2 : a = 38 ∧ b = 53
        · rw [if_pos h2, h2.1, h2.2]
        · rw [if_neg h2])) (by omega) (fun k hk ih => ?_)
    have hK' := Kin_sC (s := (fun j => if j < k then 0 else gi h 74 j, gi h 38 53)) hK
    have hR' := MR_sC (s := (fun j => if j < k then 0 else gi h 74 j, gi h 38 53)) hR
    refine J_iload_n (pq := 3) dX9_mostVolts_2 rfl rfl (J_bipush (pq := 5) dX9_mostVolts_3 rfl c_bipush_100 (J_icmp_gt (pq := 8) (tgt := 21) dX9_mostVolts_5 rfl rfl (fun c => ?_) (fun c => ?_)))
    · rw [show (100 : Int32) = nI 100 from rfl, nI_ltI (by omega) (by omega)] at c
      have hk1 : k = 101 := by omega
      subst hk1
      exact J_weak (by simp [lsub]) rfl rfl (k21 () trivial)
    · rw [show (100 : Int32) = nI 100 from rfl, nI_ltI (by omega) (by omega)] at c
      have hb : vp_in (nI k) 101 := vp_in_nI (by omega) (by omega)
      refine J_aload_n (pq := 9) dX9_mostVolts_8 rfl rfl (J_getA (pq := 12) dX9_mostVolts_9 rfl f_X9_124 (by decide +kernel) (hK'.at rfl) (hR' _ _ rfl) (J_iload_n (pq := 13) dX9_mostVolts_12 rfl rfl (J_iconst (pq := 14) dX9_mostVolts_13 rfl c_iconst_0 (J_iast (pq := 15) dX9_mostVolts_14 rfl (hK'.at rfl) (by assumption) (J_iinc (pq := 18) dX9_mostVolts_15 rfl c_iconst_1 rfl (Nat.le_of_ble_eq_true rfl) rfl (J_goto (tgt := 2) dX9_mostVolts_18 rfl (?_)))))))
      rw [ixn (by omega), nI_1]
      refine J_eq (h' := sC h (fun j => if j < k + 1 then 0 else gi h 74 j, gi h 38 53)) rfl rfl (JH_ext rfl (fun a b => ?_)) (ih (k + 1) (by omega) (by omega))
      rw [gi_si, gi_sC, gi_sC]
      by_cases h1 : a = 74
      · subst h1
        simp only [if_true, true_and]
        by_cases h2 : b = k
        · rw [if_pos h2, if_pos (by omega)]
        · rw [if_neg h2]
          by_cases h3 : b < k
          · rw [if_pos h3, if_pos (by omega)]
          · rw [if_neg h3, if_neg (by omega)]
      · rw [if_neg (by omega), if_neg h1, if_neg h1]
  have hK' := Kin_sC (s := (fun j => if j < 101 then 0 else gi h 74 j, gi h 38 53)) hK
  have hR' := MR_sC (s := (fun j => if j < 101 then 0 else gi h 74 j, gi h 38 53)) hR
  have hb0 : vp_in (0 : Int32) 101 := vp_in_nI (n := 0) (by omega) (by omega)
  refine J_aload_n (pq := 22) dX9_mostVolts_21 rfl rfl (J_getA (pq := 25) dX9_mostVolts_22 rfl f_X9_124 (by decide +kernel) (hK'.at rfl) (hR' _ _ rfl) (J_iconst (pq := 26) dX9_mostVolts_25 rfl c_iconst_0 (J_iconst (pq := 27) dX9_mostVolts_26 rfl c_iconst_1 (J_iast (pq := 28) dX9_mostVolts_27 rfl (hK'.at rfl) (by assumption) (J_aload_n (pq := 29) dX9_mostVolts_28 rfl rfl (J_iconst (pq := 30) dX9_mostVolts_29 rfl c_iconst_1 (J_putZ (pq := 33) dX9_mostVolts_30 rfl f_X9_298 (Or.inl rfl) (hK'.at rfl) (by first | exact bi_or _ | exact Or.inl rfl | exact Or.inr rfl | assumption) (?_))))))))
  -- the end: the most volts at a pulse
  have fin : ∀ s : (Nat → Int32) × Int32, UB s.1 M → bt (s.1 0) 0 = true → (∀ k, k < o → s.1 k ≠ 0 → ∀ e, e ∈ odE (gi h) (100 * r) k → ClE s.1 k e) → J x yX9_mostVolts cX9_mostVolts 5 (some .int) 2 0 0 (fun v g => v = some (.int (nI (tq tc 0) - 1)) ∧ ∃ s, g = sC h s) 75 [some (.ref 38), some (.int (nI r)), none, none, none] [] (sC h s) := by
    intro s hU hs0 hcl
    have hge := (volts_ge tc hPG 5 0 o hO hMS (by omega) (fun k _ hk => hcl k hk) 0 hs0).2
    have hKs := Kin_sC (s := s) hK
    have hRs := MR_sC (s := s) hR
    have hT31 : tq tc 0 ≤ 100 := by
      rcases hge with q | ⟨k, u, -, -, -, q, hb⟩
      · omega
      · by_cases hu : u < 32
        · omega
        · rw [bt_ge (by omega)] at hb; cases hb
    have hT1 : ∀ k u, k < o → gi h 63 (100 * r + k) = nI 1 → bt (s.1 k) u = true → u + 1 ≤ tq tc 0 := fun k u hk h1 hb => by
      have q1 := hU k u (by omega) hb
      have q2 := (m3 k (by omega) hk).2.2 h1
      omega
    refine J_iconst (pq := 76) dX9_mostVolts_75 rfl c_iconst_m1 (J_istore_m 2 (pq := 77) dX9_mostVolts_76 rfl rfl (Nat.le_of_ble_eq_true rfl) (Nat.le_of_ble_eq_true rfl) rfl (J_iconst (pq := 78) dX9_mostVolts_77 rfl c_iconst_0 (J_istore_m 3 (pq := 79) dX9_mostVolts_78 rfl rfl (Nat.le_of_ble_eq_true rfl) (Nat.le_of_ble_eq_true rfl) rfl (?_))))
    refine J_loop (σ := Nat × Nat) (fun z => [some (.ref 38), some (.int (nI r)), some (.int (nI z.2 - 1)), some (.int (nI z.1)), none]) (fun _ => []) (fun _ => sC h s) (fun z => z.1 ≤ o ∧ z.2 ≤ tq tc 0 ∧ ∀ k u, k < z.1 → gi h 63 (100 * r + k) = nI 1 → u < 31 → bt (s.1 k) u = true → u + 1 ≤ z.2) (fun z => o - z.1) (0, 0) rfl rfl rfl ⟨by simp, by simp, fun k u q => by simp at q⟩ (fun z hz ih => ?_)
    obtain ⟨k, V⟩ := z
    obtain ⟨z1, z2, z3⟩ := hz
    simp only at z1 z2 z3 ih ⊢
    refine J_iload_n (pq := 80) dX9_mostVolts_79 rfl rfl (J_aload_n (pq := 81) dX9_mostVolts_80 rfl rfl (J_getA (pq := 84) dX9_mostVolts_81 rfl f_X9_85 (by decide +kernel) (hKs.at rfl) (hRs _ _ rfl) (J_iload_n (pq := 85) dX9_mostVolts_84 rfl rfl (J_iald (pq := 86) dX9_mostVolts_85 rfl (hKs.at rfl) (by assumption) (J_icmp_ge (pq := 89) (tgt := 150) dX9_mostVolts_86 rfl rfl (fun c => ?_) (fun c => ?_))))))
    · rw [e61, nI_leI (by omega) (by omega)] at c
      refine J_iload_n (pq := 151) dX9_mostVolts_150 rfl rfl (J_iret dX9_mostVolts_151 rfl rfl ?_)
      refine ⟨?_, s, rfl⟩
      have hVT : V = tq tc 0 := by
        rcases hge with q | ⟨k', u, -, q1, q2, q3, q4⟩
        · omega
        · have hu : u < 31 := by
            have h1 := hU k' u (by omega) q4
            have h2 := (m3 k' (by omega) q1)
            by_cases hu : u < 31
            · exact hu
            · exfalso
              have := (tv_30 tc hPG 5 hO 0 (by omega)).2
              omega
          have := z3 k' u (by omega) q2 hu q4
          omega
      rw [hVT]
    · rw [e61, nI_leI (by omega) (by omega)] at c
      have hko : k < o := by omega
      refine J_cut (σ := Nat) 144 (fun V' => [some (.ref 38), some (.int (nI r)), some (.int (nI V' - 1)), some (.int (nI k)), none]) (fun _ => []) (fun _ => sC h s) (fun V' => V ≤ V' ∧ V' ≤ tq tc 0 ∧ (gi h 63 (100 * r + k) = nI 1 → ∀ u, u < 31 → bt (s.1 k) u = true → u + 1 ≤ V')) (fun V' hV' => ?_) (fun k144 => ?_)
      · refine J_iinc (pq := 147) dX9_mostVolts_144 rfl c_iconst_1 rfl (Nat.le_of_ble_eq_true rfl) rfl (J_goto (tgt := 79) dX9_mostVolts_147 rfl (?_))
        rw [nI_1]
        refine J_weak (by simp [lsub]) rfl rfl (ih (k + 1, V') ⟨by simp only; omega, hV'.2.1, fun k' u q1 q2 q3 q4 => ?_⟩ (by simp only; omega))
        simp only at q1 ⊢
        by_cases hk' : k' = k
        · subst hk'; exact hV'.2.2 q2 u q3 q4
        · have := z3 k' u (by omega) q2 q3 q4
          omega
      · refine J_iconst (pq := 90) dX9_mostVolts_89 rfl c_iconst_0 (J_istore (pq := 92) dX9_mostVolts_90 rfl (Nat.le_of_ble_eq_true rfl) (Nat.le_of_ble_eq_true rfl) rfl (?_))
        refine J_loop (σ := Nat × Nat) (fun z => [some (.ref 38), some (.int (nI r)), some (.int (nI z.2 - 1)), some (.int (nI k)), some (.int (nI z.1))]) (fun _ => []) (fun _ => sC h s) (fun z => z.1 ≤ 31 ∧ V ≤ z.2 ∧ z.2 ≤ tq tc 0 ∧ (gi h 63 (100 * r + k) = nI 1 → ∀ u, u < z.1 → bt (s.1 k) u = true → u + 1 ≤ z.2)) (fun z => 31 - z.1) (0, V) rfl rfl rfl ⟨by simp, by simp, z2, fun _ u q => by simp at q⟩ (fun z hz ih2 => ?_)
        obtain ⟨bb, W⟩ := z
        obtain ⟨y1, y2, y3, y4⟩ := hz
        simp only at y1 y2 y3 y4 ih2 ⊢
        refine J_iload (pq := 94) dX9_mostVolts_92 rfl rfl (J_bipush (pq := 96) dX9_mostVolts_94 rfl c_bipush_31 (J_icmp_ge (pq := 99) (tgt := 144) dX9_mostVolts_96 rfl rfl (fun c => ?_) (fun c => ?_)))
        · rw [show (31 : Int32) = nI 31 from rfl, nI_leI (by omega) (by omega)] at c
          exact J_weak (by simp [lsub]) rfl rfl (k144 W ⟨y2, y3, fun q u hu => y4 q u (by omega)⟩)
        · rw [show (31 : Int32) = nI 31 from rfl, nI_leI (by omega) (by omega)] at c
          have ib : (100 : Int32) * nI r + nI k = nI (100 * r + k) := by rw [hrb, nI_add]
          have hbi : vp_in ((100 : Int32) * nI r + nI k) 500 := vinN ib (by omega) (by omega)
          have hxi : ix ((100 : Int32) * nI r + nI k) = 100 * r + k := by rw [ib, ixn (by omega)]
          have e63 : gi (sC h s) 63 (ix ((100 : Int32) * nI r + nI k)) = gi h 63 (100 * r + k) := by rw [hxi]; exact sC_o (by decide) (by simp)
          refine J_aload_n (pq := 100) dX9_mostVolts_99 rfl rfl (J_getA (pq := 103) dX9_mostVolts_100 rfl f_X9_91 (by decide +kernel) (hKs.at rfl) (hRs _ _ rfl) (J_bipush (pq := 105) dX9_mostVolts_103 rfl c_bipush_100 (J_iload_n (pq := 106) dX9_mostVolts_105 rfl rfl (J_imul (pq := 107) dX9_mostVolts_106 rfl (J_iload_n (pq := 108) dX9_mostVolts_107 rfl rfl (J_iadd (pq := 109) dX9_mostVolts_108 rfl (J_iald (pq := 110) dX9_mostVolts_109 rfl (hKs.at rfl) (by assumption) (J_iconst (pq := 111) dX9_mostVolts_110 rfl c_iconst_1 (J_icmp_ne (pq := 114) (tgt := 144) dX9_mostVolts_111 rfl rfl (fun c => ?_) (fun c => ?_))))))))))
          · rw [e63] at c
            exact J_weak (by simp [lsub]) rfl rfl (k144 W ⟨y2, y3, fun q => absurd q c⟩)
          · rw [e63] at c
            have h1 : gi h 63 (100 * r + k) = nI 1 := c
            have hbk : vp_in (nI k) 101 := vp_in_nI (by omega) (by omega)
            have e74 : gi (sC h s) 74 (ix (nI k)) = s.1 k := by rw [ixn (by omega)]; rfl
            refine J_cut (σ := Nat) 138 (fun W' => [some (.ref 38), some (.int (nI r)), some (.int (nI W' - 1)), some (.int (nI k)), some (.int (nI bb))]) (fun _ => []) (fun _ => sC h s) (fun W' => W ≤ W' ∧ W' ≤ tq tc 0 ∧ (bt (s.1 k) bb = true → bb + 1 ≤ W')) (fun W' hW' => ?_) (fun k138 => ?_)
            · refine J_iinc (pq := 141) dX9_mostVolts_138 rfl c_iconst_1 rfl (Nat.le_of_ble_eq_true rfl) rfl (J_goto (tgt := 92) dX9_mostVolts_141 rfl (?_))
              rw [nI_1]
              refine J_weak (by simp [lsub]) rfl rfl (ih2 (bb + 1, W') ⟨by simp only; omega, by simp only; omega, hW'.2.1, fun q u q1 q2 => ?_⟩ (by simp only; omega))
              simp only at q1 ⊢
              by_cases hu : u = bb
              · subst hu; exact hW'.2.2 q2
              · have := y4 q u (by omega) q2
                omega
            · refine J_aload_n (pq := 115) dX9_mostVolts_114 rfl rfl (J_getA (pq := 118) dX9_mostVolts_115 rfl f_X9_124 (by decide +kernel) (hKs.at rfl) (hRs _ _ rfl) (J_iload_n (pq := 119) dX9_mostVolts_118 rfl rfl (J_iald (pq := 120) dX9_mostVolts_119 rfl (hKs.at rfl) (by assumption) (J_iload (pq := 122) dX9_mostVolts_120 rfl rfl (J_ishr (pq := 123) dX9_mostVolts_122 rfl (J_iconst (pq := 124) dX9_mostVolts_123 rfl c_iconst_1 (J_iand (pq := 125) dX9_mostVolts_124 rfl (J_iconst (pq := 126) dX9_mostVolts_125 rfl c_iconst_1 (J_icmp_ne (pq := 129) (tgt := 138) dX9_mostVolts_126 rfl rfl (fun c => ?_) (fun c => ?_))))))))))
              · rw [e74, bt_shr (by omega)] at c
                exact J_weak (by simp [lsub]) rfl rfl (k138 W ⟨Nat.le_refl _, y3, fun q => absurd q c⟩)
              · rw [e74, bt_shr (by omega)] at c
                have hbt := c
                have hTb := hT1 k bb hko h1 hbt
                refine J_iload (pq := 131) dX9_mostVolts_129 rfl rfl (J_iload_n (pq := 132) dX9_mostVolts_131 rfl rfl (J_icmp_le (pq := 135) (tgt := 138) dX9_mostVolts_132 rfl rfl (fun c => ?_) (fun c => ?_)))
                · rw [pv_le (by omega) (by omega)] at c
                  exact J_weak (by simp [lsub]) rfl rfl (k138 W ⟨Nat.le_refl _, y3, fun q => c⟩)
                · rw [pv_le (by omega) (by omega)] at c
                  refine J_iload (pq := 137) dX9_mostVolts_135 rfl rfl (J_istore_m 2 (pq := 138) dX9_mostVolts_137 rfl rfl (Nat.le_of_ble_eq_true rfl) (Nat.le_of_ble_eq_true rfl) rfl (?_))
                  refine J_weak (ls' := [some (.ref 38), some (.int (nI r)), some (.int (nI (bb + 1) - 1)), some (.int (nI k)), some (.int (nI bb))]) (by simp [lsub, nI_pred]) rfl rfl (k138 (bb + 1) ⟨by omega, hTb, fun q => Nat.le_refl _⟩)
  refine J_loop (σ := (Nat → Int32) × Int32) (fun _ => [some (.ref 38), some (.int (nI r)), none, none, none]) (fun _ => []) (fun s => sC h s) (fun s => UB s.1 M ∧ bt (s.1 0) 0 = true ∧ (s.2 = 0 ∨ s.2 = 1) ∧ (s.2 = 0 → ∀ k, k < o → s.1 k ≠ 0 → ∀ e, e ∈ odE (gi h) (100 * r) k → ClE s.1 k e)) (fun s => 2 * wsum s.1 101 + (if s.2 = 0 then 0 else 1)) (fun j => if j = 0 then 1 else if j < 101 then 0 else gi h 74 j, 1) rfl rfl (JH_ext rfl (fun a b => ?_)) ⟨fun k u hk hu => ?_, ?_, Or.inr rfl, fun q => absurd q (show ¬ (1 : Int32) = 0 by decide)⟩ (fun s hs ih => ?_)
  · rw [show ix (0 : Int32) = 0 from rfl, gi_si, gi_si, gi_sC, gi_sC]
    by_cases h1 : a = 74
    · subst h1
      by_cases h2 : b = 0
      · simp [h2]
      · simp [h2]
    · by_cases h2 : a = 38 ∧ b = 53
      · obtain ⟨rfl, rfl⟩ := h2; simp
      · rw [if_neg h2, if_neg (by omega), if_neg h1, if_neg h2, if_neg h1, if_neg h2]
  · simp only at hu
    by_cases h0 : k = 0
    · rw [if_pos h0, bt_1, decide_eq_true_eq] at hu; omega
    · rw [if_neg h0, if_pos (by omega)] at hu
      exact absurd rfl (bt_ne hu)
  · show bt 1 0 = true; rw [bt_1]; rfl
  obtain ⟨hU, hb00, hs2, hcl⟩ := hs
  have hKs := Kin_sC (s := s) hK
  have hRs := MR_sC (s := s) hR
  have e53 : gi (sC h s) 38 53 = s.2 := rfl
  refine J_aload_n (pq := 34) dX9_mostVolts_33 rfl rfl (J_getI (pq := 37) dX9_mostVolts_34 rfl f_X9_298 jsZ (hKs.at rfl) (J_if_eq (pq := 40) (tgt := 75) dX9_mostVolts_37 rfl rfl (fun c => ?_) (fun c => ?_)))
  · rw [e53] at c
    exact fin s hU hb00 (hcl c)
  · rw [e53] at c
    have hs0 := c
    refine J_aload_n (pq := 41) dX9_mostVolts_40 rfl rfl (J_iconst (pq := 42) dX9_mostVolts_41 rfl c_iconst_0 (J_putZ (pq := 45) dX9_mostVolts_42 rfl f_X9_298 (Or.inl rfl) (hKs.at rfl) (by first | exact bi_or _ | exact Or.inl rfl | exact Or.inr rfl | assumption) (J_iconst (pq := 46) dX9_mostVolts_45 rfl c_iconst_0 (J_istore_m 2 (pq := 47) dX9_mostVolts_46 rfl rfl (Nat.le_of_ble_eq_true rfl) (Nat.le_of_ble_eq_true rfl) rfl (?_)))))
    refine J_loop (σ := Nat × ((Nat → Int32) × Int32)) (fun z => [some (.ref 38), some (.int (nI r)), some (.int (nI z.1)), none, none]) (fun _ => []) (fun z => sC h z.2) (fun z => z.1 ≤ o ∧ FS (s.1, 0) z.2 ∧ UB z.2.1 M ∧ (z.2.2 = 0 → ∀ k, k < z.1 → s.1 k ≠ 0 → ∀ e, e ∈ odE (gi h) (100 * r) k → ClE s.1 k e)) (fun z => o - z.1) (0, (s.1, 0)) rfl rfl (JH_ext rfl (fun a b => ?_)) ⟨by simp, FS.rf _, hU, fun _ k q => by simp at q⟩ (fun z hz ih2 => ?_)
    · rw [gi_si, gi_sC, gi_sC]
      by_cases h1 : a = 74
      · subst h1; simp
      · by_cases h2 : a = 38 ∧ b = 53
        · obtain ⟨rfl, rfl⟩ := h2; simp
        · rw [if_neg h2, if_neg h1, if_neg h2, if_neg h1, if_neg h2]
    obtain ⟨k, s'⟩ := z
    obtain ⟨z1, z2, z3, z4⟩ := hz
    simp only at z1 z2 z3 z4 ih2 ⊢
    have hKz := Kin_sC (s := s') hK
    have hRz := MR_sC (s := s') hR
    refine J_iload_n (pq := 48) dX9_mostVolts_47 rfl rfl (J_aload_n (pq := 49) dX9_mostVolts_48 rfl rfl (J_getA (pq := 52) dX9_mostVolts_49 rfl f_X9_85 (by decide +kernel) (hKz.at rfl) (hRz _ _ rfl) (J_iload_n (pq := 53) dX9_mostVolts_52 rfl rfl (J_iald (pq := 54) dX9_mostVolts_53 rfl (hKz.at rfl) (by assumption) (J_icmp_ge (pq := 57) (tgt := 72) dX9_mostVolts_54 rfl rfl (fun c => ?_) (fun c => ?_))))))
    · rw [e61, nI_leI (by omega) (by omega)] at c
      have hko : k = o := by omega
      subst hko
      refine J_goto (tgt := 33) dX9_mostVolts_72 rfl (?_)
      refine J_weak (by simp [lsub]) rfl rfl (ih s' ⟨z3, z2.1 0 0 hb00, z2.2.2.2.1 (Or.inl rfl), fun q => ?_⟩ ?_)
      · have := (z2.2.2.1 q).2
        rw [this]
        exact z4 q
      · rw [if_neg hs0]
        by_cases q : s'.2 = 0
        · rw [if_pos q, (z2.2.2.1 q).2]; simp only; omega
        · rw [if_neg q]
          rcases z2.2.2.2.2 q with q2 | q2
          · exact absurd rfl q2
          · simp only at q2; omega
    · rw [e61, nI_leI (by omega) (by omega)] at c
      have hko : k < o := by omega
      obtain ⟨w1, w2, w3⟩ := m3 k (by omega) hko
      obtain ⟨v1, v2, v3⟩ := ffr_s (s := s') (hE1 k hko) (odE_n w1)
      refine J_aload_n (pq := 58) dX9_mostVolts_57 rfl rfl (J_bipush (pq := 60) dX9_mostVolts_58 rfl c_bipush_100 (J_iload_n (pq := 61) dX9_mostVolts_60 rfl rfl (J_imul (pq := 62) dX9_mostVolts_61 rfl (?_))))
      rw [hrb]
      refine J_iload_n (pq := 63) dX9_mostVolts_62 rfl rfl (J_virtF (pq := 66) dX9_mostVolts_63 rfl (j_X9_flowFrom hK hR w1 (by omega) (by omega) (hE1 k hko)) rfl tg_X9_flowFrom l_X9_301 vi_X9_flowFrom (hKz.at rfl) ⟨by decide, rfl⟩ (Nat.le_of_ble_eq_true rfl) (Nat.zero_le _) (Nat.zero_le _) (Nat.le_of_ble_eq_true rfl) (J_iinc (pq := 69) dX9_mostVolts_66 rfl c_iconst_1 rfl (Nat.le_of_ble_eq_true rfl) rfl (J_goto (tgt := 47) dX9_mostVolts_69 rfl (?_))))
      rw [nI_1]
      refine J_weak (by simp [lsub]) rfl rfl (ih2 (k + 1, ffr (gi h) (100 * r) k s') ⟨by simp only; omega, z2.tr v1, v2 M (by omega) z3 (fun e he => (w2 e he).2.2), fun q k' hk' hne e he => ?_⟩ (by simp only; omega))
      simp only at q hk'
      have u1 := v1.2.2.1 q
      have u2 := z2.2.2.1 u1.1
      by_cases hkk : k' = k
      · subst hkk
        have u3 : s'.1 = s.1 := u2.2
        rw [← u3] at hne ⊢
        exact v3 q hne e he
      · exact z4 u1.1 k' (by omega) hne e he
end P10
