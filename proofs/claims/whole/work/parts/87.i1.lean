-- the class is made
def mkA (h : JH) (o t n k : Nat) : JH := sr (al h (t, n)) o k (some (kd h).length)
theorem mkA_kd (h : JH) (o t n k : Nat) : kd (mkA h o t n k) = kd h ++ [(t, n)] := rfl
theorem mkA_len (h : JH) (o t n k : Nat) : (kd (mkA h o t n k)).length = (kd h).length + 1 := by rw [mkA_kd, List.length_append]; rfl
theorem mkA_at {h : JH} {o t n k a : Nat} {r : Nat × Nat} (hb : (kd h)[a]? = some r) : (kd (mkA h o t n k))[a]? = some r := al_at hb
def rcN (h : JH) (o : Nat) : JH := si (mkA (mkA (mkA (mkA h o 50 40 0) o 50 40 1) o 50 40 2) o 50 40 3) o 5 (-1)
section I1
variable {x : JX} {h : JH} {o a b : Nat}
theorem j_X6_init (ho : (kd h)[o]? = some (6, 2)) (hl : (kd h).length + 1 < 1000000000) : JF x yX6_init cX6_init 1 none 1 1 400 [.ref o] h none (mkA h o 50 400 0) := by
  refine JM_of [some (.ref o)] (by decide) (Nat.le_of_ble_eq_true rfl) rfl ?_
  have k1 : (kd (al h (50, 400)))[o]? = some (6, 2) := al_at ho
  refine J_aload_n (pq := 1) dX6_init_0 rfl rfl (J_obj (pq := 4) dX6_init_1 rfl lo_X6_3 obI obC ho (Nat.le_of_ble_eq_true rfl) (Nat.le_of_ble_eq_true rfl) (J_aload_n (pq := 5) dX6_init_4 rfl rfl (J_sipush (pq := 8) dX6_init_5 rfl c_sipush_400 (J_newa (q := 50) (n := 400) (pq := 10) dX6_init_8 rfl (Or.inl ⟨rfl, rfl⟩) rfl ac_int (by decide) rfl (by decide) hl (Nat.le_of_ble_eq_true rfl) (Nat.le_of_ble_eq_true rfl) (?_)))))
  refine J_putR (pq := 13) dX6_init_10 rfl f_X6_9 (Or.inr ⟨rfl, _, rfl, rfl⟩) k1 rf_AI (J_vret dX6_init_13 rfl ?_)
  exact ⟨rfl, rfl⟩
theorem j_X1_init (ho : (kd h)[o]? = some (1, 2)) : JF x yX1_init cX1_init 1 none 1 0 0 [.ref o] h none (si (si h o 0 (-1)) o 1 (-1)) := by
  refine JM_of [some (.ref o)] (by decide) (Nat.le_of_ble_eq_true rfl) rfl ?_
  have k1 : (kd (si h o 0 (-1)))[o]? = some (1, 2) := ho
  refine J_aload_n (pq := 1) dX1_init_0 rfl rfl (J_obj (pq := 4) dX1_init_1 rfl lo_X1_3 obI obC ho (Nat.le_of_ble_eq_true rfl) (Nat.le_of_ble_eq_true rfl) (J_aload_n (pq := 5) dX1_init_4 rfl rfl (J_iconst (pq := 6) dX1_init_5 rfl c_iconst_m1 (J_putI (pq := 9) dX1_init_6 rfl f_X1_9 (Or.inl rfl) ho (?_)))))
  refine J_aload_n (pq := 10) dX1_init_9 rfl rfl (J_iconst (pq := 11) dX1_init_10 rfl c_iconst_m1 (J_putI (pq := 14) dX1_init_11 rfl f_X1_15 (Or.inl rfl) k1 (J_vret dX1_init_14 rfl ?_)))
  exact ⟨rfl, rfl⟩
theorem j_X2_init (ho : (kd h)[o]? = some (2, 9)) (hl : (kd h).length + 1 < 1000000000) : JF x yX2_init cX2_init 3 none 1 1 256 [.ref o, .ref a, .ref b] h none (sr (sr (mkA h o 50 256 2) o 0 (some a)) o 1 (some b)) := by
  refine JM_of [some (.ref o), some (.ref a), some (.ref b)] (by decide) (Nat.le_of_ble_eq_true rfl) rfl ?_
  have k1 : (kd (al h (50, 256)))[o]? = some (2, 9) := al_at ho
  refine J_aload_n (pq := 1) dX2_init_0 rfl rfl (J_obj (pq := 4) dX2_init_1 rfl lo_X2_3 obI obC ho (Nat.le_of_ble_eq_true rfl) (Nat.le_of_ble_eq_true rfl) (J_aload_n (pq := 5) dX2_init_4 rfl rfl (J_sipush (pq := 8) dX2_init_5 rfl c_sipush_256 (J_newa (q := 50) (n := 256) (pq := 10) dX2_init_8 rfl (Or.inl ⟨rfl, rfl⟩) rfl ac_int (by decide) rfl (by decide) hl (Nat.le_of_ble_eq_true rfl) (Nat.le_of_ble_eq_true rfl) (?_)))))
  refine J_putR (pq := 13) dX2_init_10 rfl f_X2_9 (Or.inr ⟨rfl, _, rfl, rfl⟩) k1 rf_AI (J_aload_n (pq := 14) dX2_init_13 rfl rfl (J_aload_n (pq := 15) dX2_init_14 rfl rfl (J_putR (pq := 18) dX2_init_15 rfl f_X2_15 (Or.inr ⟨rfl, _, rfl, rfl⟩) k1 rf_LTape (J_aload_n (pq := 19) dX2_init_18 rfl rfl (J_aload_n (pq := 20) dX2_init_19 rfl rfl (J_putR (pq := 23) dX2_init_20 rfl f_X2_19 (Or.inr ⟨rfl, _, rfl, rfl⟩) k1 rf_LFinding (J_vret dX2_init_23 rfl ?_)))))))
  exact ⟨rfl, rfl⟩
theorem j_X3_init (ho : (kd h)[o]? = some (3, 2)) : JF x yX3_init cX3_init 2 none 1 0 0 [.ref o, .ref a] h none (sr h o 0 (some a)) := by
  refine JM_of [some (.ref o), some (.ref a)] (by decide) (Nat.le_of_ble_eq_true rfl) rfl ?_
  refine J_aload_n (pq := 1) dX3_init_0 rfl rfl (J_obj (pq := 4) dX3_init_1 rfl lo_X3_3 obI obC ho (Nat.le_of_ble_eq_true rfl) (Nat.le_of_ble_eq_true rfl) (J_aload_n (pq := 5) dX3_init_4 rfl rfl (J_aload_n (pq := 6) dX3_init_5 rfl rfl (J_putR (pq := 9) dX3_init_6 rfl f_X3_9 (Or.inr ⟨rfl, _, rfl, rfl⟩) ho rf_LTape (J_vret dX3_init_9 rfl ?_)))))
  exact ⟨rfl, rfl⟩
theorem j_X5_init (ho : (kd h)[o]? = some (5, 8)) (hl : (kd h).length + 2 < 1000000000) : JF x yX5_init cX5_init 3 none 1 2 10 [.ref o, .ref a, .ref b] h none (sr (sr (mkA (mkA h o 50 5 5) o 52 5 6) o 0 (some a)) o 1 (some b)) := by
  refine JM_of [some (.ref o), some (.ref a), some (.ref b)] (by decide) (Nat.le_of_ble_eq_true rfl) rfl ?_
  have k1 : (kd (al h (50, 5)))[o]? = some (5, 8) := al_at ho
  have k2 : (kd (al (mkA h o 50 5 5) (52, 5)))[o]? = some (5, 8) := al_at k1
  have l1 := mkA_len h o 50 5 5
  refine J_aload_n (pq := 1) dX5_init_0 rfl rfl (J_obj (pq := 4) dX5_init_1 rfl lo_X5_3 obI obC ho (Nat.le_of_ble_eq_true rfl) (Nat.le_of_ble_eq_true rfl) (J_aload_n (pq := 5) dX5_init_4 rfl rfl (J_iconst (pq := 6) dX5_init_5 rfl c_iconst_5 (J_newa (q := 50) (n := 5) (pq := 8) dX5_init_6 rfl (Or.inl ⟨rfl, rfl⟩) rfl ac_int (by decide) rfl (by decide) (by omega) (Nat.le_of_ble_eq_true rfl) (Nat.le_of_ble_eq_true rfl) (?_)))))
  refine J_putR (pq := 11) dX5_init_8 rfl f_X5_9 (Or.inr ⟨rfl, _, rfl, rfl⟩) k1 rf_AI (?_)
  refine J_eq (h' := mkA h o 50 5 5) rfl rfl rfl ?_
  refine J_aload_n (pq := 12) dX5_init_11 rfl rfl (J_iconst (pq := 13) dX5_init_12 rfl c_iconst_5 (J_newa (q := 52) (n := 5) (pq := 15) dX5_init_13 rfl (Or.inr (Or.inr ⟨rfl, rfl⟩)) rfl ac_boolean (by decide) rfl (by decide) (by omega) (Nat.le_of_ble_eq_true rfl) (Nat.le_of_ble_eq_true rfl) (?_)))
  refine J_putR (pq := 18) dX5_init_15 rfl f_X5_15 (Or.inr ⟨rfl, _, rfl, rfl⟩) k2 rf_AZ (J_aload_n (pq := 19) dX5_init_18 rfl rfl (J_aload_n (pq := 20) dX5_init_19 rfl rfl (J_putR (pq := 23) dX5_init_20 rfl f_X5_19 (Or.inr ⟨rfl, _, rfl, rfl⟩) k2 rf_LTape (J_aload_n (pq := 24) dX5_init_23 rfl rfl (J_aload_n (pq := 25) dX5_init_24 rfl rfl (J_putR (pq := 28) dX5_init_25 rfl f_X5_23 (Or.inr ⟨rfl, _, rfl, rfl⟩) k2 rf_LFinding (J_vret dX5_init_28 rfl ?_)))))))
  exact ⟨rfl, rfl⟩
theorem j_X4_init (ho : (kd h)[o]? = some (4, 8)) (hl : (kd h).length + 4 < 1000000000) : JF x yX4_init cX4_init 1 none 1 4 160 [.ref o] h none (rcN h o) := by
  refine JM_of [some (.ref o)] (by decide) (Nat.le_of_ble_eq_true rfl) rfl ?_
  have k1 : (kd (al h (50, 40)))[o]? = some (4, 8) := al_at ho
  have k2 : (kd (al (mkA h o 50 40 0) (50, 40)))[o]? = some (4, 8) := al_at k1
  have k3 : (kd (al (mkA (mkA h o 50 40 0) o 50 40 1) (50, 40)))[o]? = some (4, 8) := al_at k2
  have k4 : (kd (al (mkA (mkA (mkA h o 50 40 0) o 50 40 1) o 50 40 2) (50, 40)))[o]? = some (4, 8) := al_at k3
  have l1 := mkA_len h o 50 40 0
  have l2 := mkA_len (mkA h o 50 40 0) o 50 40 1
  have l3 := mkA_len (mkA (mkA h o 50 40 0) o 50 40 1) o 50 40 2
  refine J_aload_n (pq := 1) dX4_init_0 rfl rfl (J_obj (pq := 4) dX4_init_1 rfl lo_X4_3 obI obC ho (Nat.le_of_ble_eq_true rfl) (Nat.le_of_ble_eq_true rfl) (J_aload_n (pq := 5) dX4_init_4 rfl rfl (J_bipush (pq := 7) dX4_init_5 rfl c_bipush_40 (J_newa (q := 50) (n := 40) (pq := 9) dX4_init_7 rfl (Or.inl ⟨rfl, rfl⟩) rfl ac_int (by decide) rfl (by decide) (by omega) (Nat.le_of_ble_eq_true rfl) (Nat.le_of_ble_eq_true rfl) (?_)))))
  refine J_putR (pq := 12) dX4_init_9 rfl f_X4_9 (Or.inr ⟨rfl, _, rfl, rfl⟩) k1 rf_AI (?_)
  refine J_eq (h' := mkA h o 50 40 0) rfl rfl rfl ?_
  refine J_aload_n (pq := 13) dX4_init_12 rfl rfl (J_bipush (pq := 15) dX4_init_13 rfl c_bipush_40 (J_newa (q := 50) (n := 40) (pq := 17) dX4_init_15 rfl (Or.inl ⟨rfl, rfl⟩) rfl ac_int (by decide) rfl (by decide) (by omega) (Nat.le_of_ble_eq_true rfl) (Nat.le_of_ble_eq_true rfl) (?_)))
  refine J_putR (pq := 20) dX4_init_17 rfl f_X4_15 (Or.inr ⟨rfl, _, rfl, rfl⟩) k2 rf_AI (?_)
  refine J_eq (h' := mkA (mkA h o 50 40 0) o 50 40 1) rfl rfl rfl ?_
  refine J_aload_n (pq := 21) dX4_init_20 rfl rfl (J_bipush (pq := 23) dX4_init_21 rfl c_bipush_40 (J_newa (q := 50) (n := 40) (pq := 25) dX4_init_23 rfl (Or.inl ⟨rfl, rfl⟩) rfl ac_int (by decide) rfl (by decide) (by omega) (Nat.le_of_ble_eq_true rfl) (Nat.le_of_ble_eq_true rfl) (?_)))
  refine J_putR (pq := 28) dX4_init_25 rfl f_X4_18 (Or.inr ⟨rfl, _, rfl, rfl⟩) k3 rf_AI (?_)
  refine J_eq (h' := mkA (mkA (mkA h o 50 40 0) o 50 40 1) o 50 40 2) rfl rfl rfl ?_
  refine J_aload_n (pq := 29) dX4_init_28 rfl rfl (J_bipush (pq := 31) dX4_init_29 rfl c_bipush_40 (J_newa (q := 50) (n := 40) (pq := 33) dX4_init_31 rfl (Or.inl ⟨rfl, rfl⟩) rfl ac_int (by decide) rfl (by decide) (by omega) (Nat.le_of_ble_eq_true rfl) (Nat.le_of_ble_eq_true rfl) (?_)))
  refine J_putR (pq := 36) dX4_init_33 rfl f_X4_21 (Or.inr ⟨rfl, _, rfl, rfl⟩) k4 rf_AI (?_)
  refine J_eq (h' := mkA (mkA (mkA (mkA h o 50 40 0) o 50 40 1) o 50 40 2) o 50 40 3) rfl rfl rfl ?_
  refine J_aload_n (pq := 37) dX4_init_36 rfl rfl (J_iconst (pq := 38) dX4_init_37 rfl c_iconst_m1 (J_putI (pq := 41) dX4_init_38 rfl f_X4_24 (Or.inl rfl) k4 (J_vret dX4_init_41 rfl ?_)))
  exact ⟨rfl, rfl⟩
end I1
