-- what sort of field each reference is
theorem rf_AI : JRf "[I" := ⟨by decide +kernel, .array .int, by decide +kernel, Or.inr ⟨_, rfl⟩⟩
theorem rf_AZ : JRf "[Z" := ⟨by decide +kernel, .array .boolean, by decide +kernel, Or.inr ⟨_, rfl⟩⟩
theorem rf_AJ : JRf "[J" := ⟨by decide +kernel, .array .long, by decide +kernel, Or.inr ⟨_, rfl⟩⟩
theorem rf_LTape : JRf "LChipBurner$Tape;" := ⟨by decide +kernel, .object "ChipBurner$Tape", by decide +kernel, Or.inl ⟨_, rfl⟩⟩
theorem rf_LFinding : JRf "LChipBurner$Finding;" := ⟨by decide +kernel, .object "ChipBurner$Finding", by decide +kernel, Or.inl ⟨_, rfl⟩⟩
theorem rf_LFormReader : JRf "LChipBurner$FormReader;" := ⟨by decide +kernel, .object "ChipBurner$FormReader", by decide +kernel, Or.inl ⟨_, rfl⟩⟩
theorem rf_LFormWriter : JRf "LChipBurner$FormWriter;" := ⟨by decide +kernel, .object "ChipBurner$FormWriter", by decide +kernel, Or.inl ⟨_, rfl⟩⟩
theorem rf_LRecipeReader : JRf "LChipBurner$RecipeReader;" := ⟨by decide +kernel, .object "ChipBurner$RecipeReader", by decide +kernel, Or.inl ⟨_, rfl⟩⟩
theorem rf_LRecipe : JRf "LChipBurner$Recipe;" := ⟨by decide +kernel, .object "ChipBurner$Recipe", by decide +kernel, Or.inl ⟨_, rfl⟩⟩
theorem rf_LChip : JRf "LChipBurner$Chip;" := ⟨by decide +kernel, .object "ChipBurner$Chip", by decide +kernel, Or.inl ⟨_, rfl⟩⟩
theorem rf_ALChip : JRf "[LChipBurner$Chip;" := ⟨by decide +kernel, .array (.object "ChipBurner$Chip"), by decide +kernel, Or.inr ⟨_, rfl⟩⟩
theorem rf_ALRecipe : JRf "[LChipBurner$Recipe;" := ⟨by decide +kernel, .array (.object "ChipBurner$Recipe"), by decide +kernel, Or.inr ⟨_, rfl⟩⟩
-- the class: measuring a recipe, burning
theorem xPulse_si (g : JH) {z k q a : Nat} {u d v : Int32} (hz : q + 8 ≤ z) : xPulse (si g z k u) q a d v = si (xPulse g q a d v) z k u := by
  have e : ∀ o j, o ≠ z → gi (si g z k u) o j = gi g o j := fun o j h1 => by rw [gi_si, if_neg (fun q => h1 q.1)]
  unfold xPulse
  simp only [e q _ (by omega), e (q + 3) _ (by omega), e (q + 4) _ (by omega), e (q + 5) _ (by omega), e (q + 6) _ (by omega), e (q + 7) _ (by omega)]
  have cm : ∀ (g : JH) o j (w : Int32), o ≠ z → si (si g z k u) o j w = si (si g o j w) z k u := fun g o j w h1 => si_comm g u w (fun q => h1 q.1.symm)
  repeat' split
  all_goals (repeat rw [cm _ _ _ _ (by omega)])
def adS (g : JH) (z : Nat) (α β : Int32) : JH := si (si g z 3 α) z 4 β
theorem adS_P (g : JH) {z q a : Nat} {α β d v : Int32} (hz : q + 8 ≤ z) : xPulse (adS g z α β) q a d v = adS (xPulse g q a d v) z α β := by
  unfold adS
  rw [xPulse_si _ hz, xPulse_si _ hz]
theorem adS_o {g : JH} {z a b : Nat} {α β : Int32} (h : a ≠ z) : gi (adS g z α β) a b = gi g a b := by
  unfold adS
  rw [gi_si, if_neg (fun q => h q.1), gi_si, if_neg (fun q => h q.1)]
theorem adS_ad (g : JH) (z : Nat) (α β α' β' : Int32) : si (si (adS g z α β) z 3 α') z 4 β' = adS g z α' β' := by
  unfold adS
  rw [si_comm (si g z 3 α) β α' (by omega), si_si, si_si]
theorem adS_ex {q a z : Nat} {dd α β : Int32} (hz : q + 8 ≤ z) (tc : Cond) (hc : PG tc) (g : JH) (w : Nat × Bool × Nat) : cE q a dd tc (adS g z α β, w) = (adS (cE q a dd tc (g, w)).1 z α β, (cE q a dd tc (g, w)).2) := by
  have := ex_sim (P := xPu q a dd) (R := xRt q a dd) (P2 := xPu q a dd) (R2 := xRt q a dd) (Rl := fun s t => s = adS t z α β) (fun s t v h => by subst h; exact adS_P t hz) (fun s t h => by subst h; unfold xRt; rw [adS_o (by omega), adS_o (by omega)]) tc hc (adS g z α β, w) (g, w) ⟨rfl, rfl⟩
  exact Prod.ext this.1 this.2
theorem wS_p34 (g : JH) (z k : Nat) (s : Nat × Bool × Nat) (v : Int32) (hk : k ≠ 2 ∧ k ≠ 5 ∧ k ≠ 6) : si (wS g z s) z k v = wS (si g z k v) z s := JH_ext rfl (fun a b => by
  rw [gi_si, gi_wS, gi_wS, gi_si]
  by_cases ha : a = z ∧ b = k
  · rw [if_pos ha, if_neg (by omega), if_neg (by omega), if_neg (by omega), if_pos ha]
  · rw [if_neg ha, if_neg ha])
section D4
variable {x : JX} {h : JH} {q s d e nc : Nat}
theorem j_measure {tc : Cond} (hC : RKc h d e) (hPG : PG tc) (hO : POK tc 5) (hS : DS (gi h) d tc 0 e) : JF x yX4_measure cX4_measure 1 none 13 0 0 [.ref d] h none (si (si (si h d 5 (nI (tq tc 0) - 1)) d 6 (nI (min 1000000 (pP tc)))) d 7 (nI (min 1000000 (pW tc)))) := by
  have hd0 := hC.1.1.1
  have he := hC.2.2
  have hle := DS_le tc hPG _ _ hS
  have o4 : ∀ k v, k ≠ 4 → gi (si h d k v) d 4 = nI e := fun k v hk => by rw [gi_si, if_neg (by omega)]; exact hC.2.1
  refine JM_of [some (.ref d)] (by decide) (Nat.le_of_ble_eq_true rfl) rfl ?_
  refine J_aload_n (pq := 1) dX4_measure_0 rfl rfl (J_iconst (pq := 2) dX4_measure_1 rfl c_iconst_m1 (J_putI (pq := 5) dX4_measure_2 rfl f_X4_24 (Or.inl rfl) hd0 (J_aload_n (pq := 6) dX4_measure_5 rfl rfl (J_iconst (pq := 7) dX4_measure_6 rfl c_iconst_0 (J_aload_n (pq := 8) dX4_measure_7 rfl rfl (J_getI (pq := 11) dX4_measure_8 rfl f_X4_28 jsI hd0 (?_)))))))
  rw [o4 _ _ (by omega)]
  have hv := vl_fn (x := x) (P := 0) (v := 0) (dp := 0) (D := 12) (vl_all hC tc hPG) hC hO hS (Nat.le_refl _) (by omega) (by omega) (by omega) (by omega)
  refine J_iconst (pq := 12) dX4_measure_11 rfl c_iconst_0 (J_iconst (pq := 13) dX4_measure_12 rfl c_iconst_0 (J_virtF (pq := 16) dX4_measure_13 rfl (hv) rfl tg_X4_volts l_X4_39 vi_X4_volts hd0 ⟨by decide, rfl⟩ (Nat.le_of_ble_eq_true rfl) (Nat.zero_le _) (Nat.zero_le _) (Nat.le_of_ble_eq_true rfl) (J_pop (pq := 17) dX4_measure_16 rfl rfl (J_aload_n (pq := 18) dX4_measure_17 rfl rfl (J_ldc2 (pq := 21) dX4_measure_18 rfl k_X4_43 (J_aload_n (pq := 22) dX4_measure_21 rfl rfl (J_iconst (pq := 23) dX4_measure_22 rfl c_iconst_1 (J_iconst (pq := 24) dX4_measure_23 rfl c_iconst_0 (?_)))))))))
  rw [Nat.zero_max]
  have c1 : ∀ g : JH, g.2 = h.2 → (∀ a b, a ≠ d → gi g a b = gi h a b) → DS (gi g) d tc 0 e := fun g _ hg => DS_congr tc hPG 0 e (fun k _ _ => ⟨hg _ _ (by omega), hg _ _ (by omega), hg _ _ (by omega), hg _ _ (by omega)⟩) hS
  have hC1 : RKc (si h d 5 (nI (tq tc 0) - 1)) d e := hC.s5 _
  have hS1 := c1 (si h d 5 (nI (tq tc 0) - 1)) rfl (fun a b q => by rw [gi_si, if_neg (fun z => q z.1)])
  have hm1 := ml_fn (x := x) (pl := true) (dp := 0) (D := 7) (ml_all hC1 tc hPG) hC1 hO hS1 (Nat.le_refl _) (by omega) (by omega)
  have b1 := pM_big (pl := true) hPG hO (by omega) (by omega)
  have b2 := pM_big (pl := false) hPG hO (by omega) (by omega)
  refine J_aload_n (pq := 25) dX4_measure_24 rfl rfl (J_getI (pq := 28) dX4_measure_25 rfl f_X4_28 jsI hd0 (?_))
  rw [o4 _ _ (by omega)]
  refine J_iconst (pq := 29) dX4_measure_28 rfl c_iconst_0 (J_virtF (pq := 32) dX4_measure_29 rfl (hm1) rfl tg_X4_most l_X4_45 vi_X4_most hd0 ⟨by decide, rfl⟩ (Nat.le_of_ble_eq_true rfl) (Nat.zero_le _) (Nat.zero_le _) (Nat.le_of_ble_eq_true rfl) (J_statF (pq := 35) dX4_measure_32 rfl (j_minL (m := 1000000) (by omega) (by omega)) rfl tg_J9_min_f86c9 l_X4_49 st_J9_min_f86c9 (Nat.le_of_ble_eq_true rfl) (Nat.zero_le _) (Nat.zero_le _) (Nat.le_of_ble_eq_true rfl) (J_l2i (pq := 36) dX4_measure_35 rfl (J_putI (pq := 39) dX4_measure_36 rfl f_X4_55 (Or.inl rfl) hd0 (J_aload_n (pq := 40) dX4_measure_39 rfl rfl (J_ldc2 (pq := 43) dX4_measure_40 rfl k_X4_43 (J_aload_n (pq := 44) dX4_measure_43 rfl rfl (J_iconst (pq := 45) dX4_measure_44 rfl c_iconst_0 (J_iconst (pq := 46) dX4_measure_45 rfl c_iconst_0 (?_))))))))))
  rw [lN_i]
  have hC2 : RKc (si (si h d 5 (nI (tq tc 0) - 1)) d 6 (nI (min 1000000 (pM true tc)))) d e := hC1.of3 rfl (by rw [gi_si, if_neg (by omega)])
  have hS2 := c1 (si (si h d 5 (nI (tq tc 0) - 1)) d 6 (nI (min 1000000 (pM true tc)))) rfl (fun a b q => by rw [gi_si, if_neg (fun z => q z.1), gi_si, if_neg (fun z => q z.1)])
  have hm2 := ml_fn (x := x) (pl := false) (dp := 0) (D := 7) (ml_all hC2 tc hPG) hC2 hO hS2 (Nat.le_refl _) (by omega) (by omega)
  refine J_aload_n (pq := 47) dX4_measure_46 rfl rfl (J_getI (pq := 50) dX4_measure_47 rfl f_X4_28 jsI hd0 (?_))
  rw [hC2.2.1]
  refine J_iconst (pq := 51) dX4_measure_50 rfl c_iconst_0 (J_virtF (pq := 54) dX4_measure_51 rfl (hm2) rfl tg_X4_most l_X4_45 vi_X4_most hd0 ⟨by decide, rfl⟩ (Nat.le_of_ble_eq_true rfl) (Nat.zero_le _) (Nat.zero_le _) (Nat.le_of_ble_eq_true rfl) (J_statF (pq := 57) dX4_measure_54 rfl (j_minL (m := 1000000) (by omega) (by omega)) rfl tg_J9_min_f86c9 l_X4_49 st_J9_min_f86c9 (Nat.le_of_ble_eq_true rfl) (Nat.zero_le _) (Nat.zero_le _) (Nat.le_of_ble_eq_true rfl) (J_l2i (pq := 58) dX4_measure_57 rfl (J_putI (pq := 61) dX4_measure_58 rfl f_X4_58 (Or.inl rfl) hd0 (J_vret dX4_measure_61 rfl ?_)))))
  rw [lN_i]
  exact ⟨rfl, rfl⟩
theorem j_X7_init {z L : Nat} (hz : (kd h)[z]? = some (7, 7)) : JF x yX7_init cX7_init 4 none 1 0 0 [.ref z, .ref q, .ref d, .int (nI L)] h none (si (sr (sr h z 0 (some q)) z 1 (some d)) z 2 (nI L)) := by
  refine JM_of [some (.ref z), some (.ref q), some (.ref d), some (.int (nI L))] (by decide) (Nat.le_of_ble_eq_true rfl) rfl ?_
  refine J_aload_n (pq := 1) dX7_init_0 rfl rfl (J_obj (pq := 4) dX7_init_1 rfl lo_X7_3 obI obC hz (Nat.le_of_ble_eq_true rfl) (Nat.le_of_ble_eq_true rfl) (J_aload_n (pq := 5) dX7_init_4 rfl rfl (J_aload_n (pq := 6) dX7_init_5 rfl rfl (J_putR (pq := 9) dX7_init_6 rfl f_X7_9 (Or.inr ⟨rfl, _, rfl, rfl⟩) hz rf_LChip (J_aload_n (pq := 10) dX7_init_9 rfl rfl (J_aload_n (pq := 11) dX7_init_10 rfl rfl (J_putR (pq := 14) dX7_init_11 rfl f_X7_15 (Or.inr ⟨rfl, _, rfl, rfl⟩) hz rf_LRecipe (J_aload_n (pq := 15) dX7_init_14 rfl rfl (J_iload_n (pq := 16) dX7_init_15 rfl rfl (J_putI (pq := 19) dX7_init_16 rfl f_X7_19 (Or.inl rfl) hz (J_vret dX7_init_19 rfl ?_)))))))))))
  exact ⟨rfl, rfl⟩
theorem j_workAt {z a v l : Nat} {ok : Bool} {dd : Int32} {tc : Cond} {g : JH} (hB : WB (adS g z (nI a) dd) z q d s e a dd) (hPG : PG tc) (hO : POK tc 5) (hS : DS (gi g) d tc 0 e) (hl : l ≤ 100000) : JF x yX7_workAt cX7_workAt 3 none 20 0 0 [.ref z, .int (nI a), .int dd] (wS g z (v, ok, l)) none (wS (adS (cE q a dd tc (g, 0, false, l)).1 z (nI a) dd) z (cE q a dd tc (g, 0, false, l)).2) := by
  have hK0 := hB
  obtain ⟨k0, r0, r1, a3, a4, hCK, hRK, ha8, hdq, hqz⟩ := hB
  have hS' : DS (gi (adS g z (nI a) dd)) d tc 0 e := DS_congr tc hPG 0 e (fun k _ _ => ⟨adS_o (by omega), adS_o (by omega), adS_o (by omega), adS_o (by omega)⟩) hS
  have hw := ws_fn (x := x) (dp := 0) (D := 19) (w := (adS g z (nI a) dd, 0, false, l)) (ws_all hK0 tc hPG) hPG hK0 hO hS' (Nat.le_refl _) (by omega) (by omega) ⟨pI.rf _ _, hl⟩
  rw [adS_ex hqz tc hPG] at hw
  have kz : (kd g)[z]? = some (7, 7) := k0
  refine JM_of [some (.ref z), some (.int (nI a)), some (.int dd)] (by decide) (Nat.le_of_ble_eq_true rfl) rfl ?_
  refine J_aload_n (pq := 1) dX7_workAt_0 rfl rfl (J_iload_n (pq := 2) dX7_workAt_1 rfl rfl (J_putI (pq := 5) dX7_workAt_2 rfl f_X7_23 (Or.inl rfl) kz (J_aload_n (pq := 6) dX7_workAt_5 rfl rfl (J_iload_n (pq := 7) dX7_workAt_6 rfl rfl (J_putI (pq := 10) dX7_workAt_7 rfl f_X7_26 (Or.inl rfl) kz (J_aload_n (pq := 11) dX7_workAt_10 rfl rfl (J_iconst (pq := 12) dX7_workAt_11 rfl c_iconst_0 (J_putI (pq := 15) dX7_workAt_12 rfl f_X7_29 (Or.inl rfl) kz (J_aload_n (pq := 16) dX7_workAt_15 rfl rfl (J_iconst (pq := 17) dX7_workAt_16 rfl c_iconst_0 (J_putZ (pq := 20) dX7_workAt_17 rfl f_X7_32 (Or.inl rfl) kz (by first | exact bi_or _ | exact Or.inl rfl | exact Or.inr rfl | assumption) (?_))))))))))))
  rw [wS_p34 _ _ _ _ _ (by omega), wS_p34 _ _ _ _ _ (by omega), show (0 : Int32) = nI 0 from rfl, wS_p5, show nI 0 = bi false from rfl, wS_p6]
  show J x yX7_workAt cX7_workAt 3 none 20 0 0 _ 20 _ _ (wS (adS g z (nI a) dd) z (0, false, l))
  have e4 : gi (wS (adS g z (nI a) dd) z (0, false, l)) d 4 = nI e := by rw [wS_o (by omega)]; exact hRK.2.1
  have r1' : gr (wS (adS g z (nI a) dd) z (0, false, l)) z 1 = some d := r1
  have kd0 : (kd (wS (adS g z (nI a) dd) z (0, false, l)))[d]? = some (4, 8) := hRK.1.1.1
  refine J_aload_n (pq := 21) dX7_workAt_20 rfl rfl (J_iconst (pq := 22) dX7_workAt_21 rfl c_iconst_0 (J_aload_n (pq := 23) dX7_workAt_22 rfl rfl (J_getA (pq := 26) dX7_workAt_23 rfl f_X7_15 (by decide +kernel) kz r1' (J_getI (pq := 29) dX7_workAt_26 rfl f_X7_36 jsI kd0 (?_)))))
  rw [e4]
  refine J_iconst (pq := 30) dX7_workAt_29 rfl c_iconst_0 (J_virtF (pq := 33) dX7_workAt_30 rfl (hw) rfl tg_X7_workSteps l_X7_41 vi_X7_workSteps kz ⟨by decide, rfl⟩ (Nat.le_of_ble_eq_true rfl) (Nat.zero_le _) (Nat.zero_le _) (Nat.le_of_ble_eq_true rfl) (J_vret dX7_workAt_33 rfl ?_))
  exact ⟨rfl, rfl⟩
end D4
