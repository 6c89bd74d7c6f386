-- the reference: its small methods
section M1
variable {x : JX} {h : JH}
theorem j_X9_isIn {v a b : Int32} : JF x yX9_isIn cX9_isIn 3 (some .boolean) 0 0 0 [.int v, .int a, .int b] h (some (.int (bi (isin v a b)))) h := by
  refine JM_of [some (.int v), some (.int a), some (.int b)] (by decide) (by decide) rfl ?_
  refine J_iload_n (pq := 1) dX9_isIn_0 rfl rfl (J_iload_n (pq := 2) dX9_isIn_1 rfl rfl (J_icmp_lt (pq := 5) (tgt := 14) dX9_isIn_2 rfl rfl (fun c2 => ?_) (fun c2 => ?_)))
  · refine J_iconst (pq := 15) dX9_isIn_14 rfl c_iconst_0 (J_iret dX9_isIn_15 rfl (by first | rfl | exact bi_nar _) ?_)
    refine ⟨congrArg (fun z => some (Value.int z)) ?_, rfl⟩; simp_all [bi, i_nlt, i_nle]
  · refine J_iload_n (pq := 6) dX9_isIn_5 rfl rfl (J_iload_n (pq := 7) dX9_isIn_6 rfl rfl (J_icmp_gt (pq := 10) (tgt := 14) dX9_isIn_7 rfl rfl (fun c7 => ?_) (fun c7 => ?_)))
    · refine J_iconst (pq := 15) dX9_isIn_14 rfl c_iconst_0 (J_iret dX9_isIn_15 rfl (by first | rfl | exact bi_nar _) ?_)
      refine ⟨congrArg (fun z => some (Value.int z)) ?_, rfl⟩; simp_all [bi, i_nlt, i_nle]
    · refine J_iconst (pq := 11) dX9_isIn_10 rfl c_iconst_1 (J_goto (tgt := 15) dX9_isIn_11 rfl (J_iret dX9_isIn_15 rfl (by first | rfl | exact bi_nar _) ?_))
      refine ⟨congrArg (fun z => some (Value.int z)) ?_, rfl⟩; simp_all [bi, i_nlt, i_nle]
theorem j_X9_tape {i : Int32} (hK : Kin h) (hR : MR h) (ht : gi h 38 2 ≤ 400) : JF x yX9_tape cX9_tape 2 (some .int) 1 0 0 [.ref 38, .int i] h (some (.int (if isin i 0 (gi h 38 2 - 1) then gi h 40 (ix i) else -1))) h := by
  refine JM_of [some (.ref 38), some (.int i)] (by decide) (by decide) rfl ?_
  refine J_iload_n (pq := 1) dX9_tape_0 rfl rfl (J_iconst (pq := 2) dX9_tape_1 rfl c_iconst_0 (J_aload_n (pq := 3) dX9_tape_2 rfl rfl (J_getI (pq := 6) dX9_tape_3 rfl f_X9_130 jsI (hK.at rfl) (J_iconst (pq := 7) dX9_tape_6 rfl c_iconst_1 (J_isub (pq := 8) dX9_tape_7 rfl (J_statF (pq := 11) dX9_tape_8 rfl (j_X9_isIn) rfl tg_X9_isIn l_X9_137 st_X9_isIn (Nat.le_of_ble_eq_true rfl) (Nat.zero_le _) (Nat.zero_le _) (Nat.le_of_ble_eq_true rfl) (J_if_eq (pq := 14) (tgt := 23) dX9_tape_11 rfl rfl (fun c11 => ?_) (fun c11 => ?_))))))))
  · sorry
  · sorry
end M1
