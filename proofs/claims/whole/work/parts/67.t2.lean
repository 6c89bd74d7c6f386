-- the class: tokens
def kb (b : Int32) : Nat := if b = -1 then 0 else if isLt b then 1 else if isDg b then 2 else if b = 59 ∨ b = 123 ∨ b = 125 then 3 else 4
def tkK (t : Nat → Int32) (n p : Nat) : Nat := kb (tat t n (tkQ t n p))
theorem kb_lt (b : Int32) : kb b < 5 := by unfold kb; (repeat' split) <;> omega
section T2
variable {x : JX} {h : JH} {n : Nat} {t : Nat → Int32}
theorem j_kind5 {b : Int32} : JF x yX5_kindOfByte cX5_kindOfByte 1 (some .int) 0 0 0 [.int b] h (some (.int (nI (kb b)))) h := by
  refine JM_of [some (.int b)] (by decide) (Nat.le_of_ble_eq_true rfl) rfl ?_
  have k1 : ¬ b = -1 → isLt b = true → J x yX5_kindOfByte cX5_kindOfByte 1 (some .int) 0 0 0 (fun v g => v = some (.int (nI (kb b))) ∧ g = h) 31 [some (.int b)] [] h := fun h0 h1 => by
    refine J_iconst (pq := 32) dX5_kindOfByte_31 rfl c_iconst_1 (J_iret dX5_kindOfByte_32 rfl rfl ?_)
    exact ⟨by unfold kb; rw [if_neg h0, if_pos h1]; rfl, rfl⟩
  have k33 : ¬ b = -1 → isLt b = false → J x yX5_kindOfByte cX5_kindOfByte 1 (some .int) 0 0 0 (fun v g => v = some (.int (nI (kb b))) ∧ g = h) 33 [some (.int b)] [] h := fun h0 h1 => by
    have k47 : isDg b = false → J x yX5_kindOfByte cX5_kindOfByte 1 (some .int) 0 0 0 (fun v g => v = some (.int (nI (kb b))) ∧ g = h) 47 [some (.int b)] [] h := fun h2 => by
      have e : kb b = if b = 59 ∨ b = 123 ∨ b = 125 then 3 else 4 := by unfold kb; rw [if_neg h0, if_neg (by rw [h1]; decide), if_neg (by rw [h2]; decide)]
      rw [e]
      refine J_iload_n (pq := 48) dX5_kindOfByte_47 rfl rfl (J_bipush (pq := 50) dX5_kindOfByte_48 rfl c_bipush_59 (J_icmp_eq (pq := 53) (tgt := 65) dX5_kindOfByte_50 rfl rfl (fun c => ?_) (fun c => ?_)))
      · refine J_iconst (pq := 66) dX5_kindOfByte_65 rfl c_iconst_3 (J_goto (tgt := 70) dX5_kindOfByte_66 rfl (J_iret dX5_kindOfByte_70 rfl rfl ?_))
        exact ⟨by rw [if_pos (Or.inl c)]; rfl, rfl⟩
      have c1 := c
      refine J_iload_n (pq := 54) dX5_kindOfByte_53 rfl rfl (J_bipush (pq := 56) dX5_kindOfByte_54 rfl c_bipush_123 (J_icmp_eq (pq := 59) (tgt := 65) dX5_kindOfByte_56 rfl rfl (fun c => ?_) (fun c => ?_)))
      · refine J_iconst (pq := 66) dX5_kindOfByte_65 rfl c_iconst_3 (J_goto (tgt := 70) dX5_kindOfByte_66 rfl (J_iret dX5_kindOfByte_70 rfl rfl ?_))
        exact ⟨by rw [if_pos (Or.inr (Or.inl c))]; rfl, rfl⟩
      have c2 := c
      refine J_iload_n (pq := 60) dX5_kindOfByte_59 rfl rfl (J_bipush (pq := 62) dX5_kindOfByte_60 rfl c_bipush_125 (J_icmp_ne (pq := 65) (tgt := 69) dX5_kindOfByte_62 rfl rfl (fun c => ?_) (fun c => ?_)))
      · refine J_iconst (pq := 70) dX5_kindOfByte_69 rfl c_iconst_4 (J_iret dX5_kindOfByte_70 rfl rfl ?_)
        exact ⟨by rw [if_neg (fun z => by exact z.elim c1 (fun z => z.elim c2 c))]; rfl, rfl⟩
      · refine J_iconst (pq := 66) dX5_kindOfByte_65 rfl c_iconst_3 (J_goto (tgt := 70) dX5_kindOfByte_66 rfl (J_iret dX5_kindOfByte_70 rfl rfl ?_))
        exact ⟨by rw [if_pos (Or.inr (Or.inr c))]; rfl, rfl⟩
    have k2 : isDg b = true → J x yX5_kindOfByte cX5_kindOfByte 1 (some .int) 0 0 0 (fun v g => v = some (.int (nI (kb b))) ∧ g = h) 45 [some (.int b)] [] h := fun h2 => by
      refine J_iconst (pq := 46) dX5_kindOfByte_45 rfl c_iconst_2 (J_iret dX5_kindOfByte_46 rfl rfl ?_)
      exact ⟨by unfold kb; rw [if_neg h0, if_neg (by rw [h1]; decide), if_pos h2]; rfl, rfl⟩
    refine J_iload_n (pq := 34) dX5_kindOfByte_33 rfl rfl (J_bipush (pq := 36) dX5_kindOfByte_34 rfl c_bipush_48 (J_icmp_lt (pq := 39) (tgt := 47) dX5_kindOfByte_36 rfl rfl (fun c => ?_) (fun c => ?_)))
    · exact k47 (by unfold isDg isin; simp [i_nle.mpr c])
    have c1 := i_nlt.mp c
    refine J_iload_n (pq := 40) dX5_kindOfByte_39 rfl rfl (J_bipush (pq := 42) dX5_kindOfByte_40 rfl c_bipush_57 (J_icmp_gt (pq := 45) (tgt := 47) dX5_kindOfByte_42 rfl rfl (fun c => ?_) (fun c => ?_)))
    · exact k47 (by unfold isDg isin; simp [c])
    · exact k2 (by unfold isDg isin; simp [c1, i_nlt.mp c])
  refine J_iload_n (pq := 1) dX5_kindOfByte_0 rfl rfl (J_iconst (pq := 2) dX5_kindOfByte_1 rfl c_iconst_m1 (J_icmp_ne (pq := 5) (tgt := 7) dX5_kindOfByte_2 rfl rfl (fun c => ?_) (fun c => ?_)))
  rotate_left
  · refine J_iconst (pq := 6) dX5_kindOfByte_5 rfl c_iconst_0 (J_iret dX5_kindOfByte_6 rfl rfl ?_)
    exact ⟨by unfold kb; rw [if_pos c]; rfl, rfl⟩
  have c0 := c
  have k19 : ¬ (97 ≤ b ∧ b ≤ 122) → J x yX5_kindOfByte cX5_kindOfByte 1 (some .int) 0 0 0 (fun v g => v = some (.int (nI (kb b))) ∧ g = h) 19 [some (.int b)] [] h := fun hno => by
    refine J_iload_n (pq := 20) dX5_kindOfByte_19 rfl rfl (J_bipush (pq := 22) dX5_kindOfByte_20 rfl c_bipush_65 (J_icmp_lt (pq := 25) (tgt := 33) dX5_kindOfByte_22 rfl rfl (fun c => ?_) (fun c => ?_)))
    · exact k33 c0 (by unfold isLt isin; simp only [Bool.or_eq_false_iff, Bool.and_eq_false_iff, decide_eq_false_iff_not]; exact ⟨Decidable.not_and_iff_or_not.mp hno, Or.inl (i_nle.mpr c)⟩)
    have c1 := i_nlt.mp c
    refine J_iload_n (pq := 26) dX5_kindOfByte_25 rfl rfl (J_bipush (pq := 28) dX5_kindOfByte_26 rfl c_bipush_90 (J_icmp_gt (pq := 31) (tgt := 33) dX5_kindOfByte_28 rfl rfl (fun c => ?_) (fun c => ?_)))
    · exact k33 c0 (by unfold isLt isin; simp only [Bool.or_eq_false_iff, Bool.and_eq_false_iff, decide_eq_false_iff_not]; exact ⟨Decidable.not_and_iff_or_not.mp hno, Or.inr (i_nle.mpr c)⟩)
    · exact k1 c0 (by unfold isLt isin; simp [c1, i_nlt.mp c])
  refine J_iload_n (pq := 8) dX5_kindOfByte_7 rfl rfl (J_bipush (pq := 10) dX5_kindOfByte_8 rfl c_bipush_97 (J_icmp_lt (pq := 13) (tgt := 19) dX5_kindOfByte_10 rfl rfl (fun c => ?_) (fun c => ?_)))
  · exact k19 (fun q => absurd c (i_nlt.mpr q.1))
  have c1 := i_nlt.mp c
  refine J_iload_n (pq := 14) dX5_kindOfByte_13 rfl rfl (J_bipush (pq := 16) dX5_kindOfByte_14 rfl c_bipush_122 (J_icmp_le (pq := 19) (tgt := 31) dX5_kindOfByte_16 rfl rfl (fun c => ?_) (fun c => ?_)))
  · exact k1 c0 (by unfold isLt isin; simp [c1, c])
  · exact k19 (fun q => c q.2)
theorem j_blanks {p : Nat} (hK : Kin h) (hX : XR h) (hn : gi h 1 1 = nI n) (hn4 : n ≤ 400) (ht : gi h 2 = t) (hp : p ≤ n) : JF x yX5_behindBlanks cX5_behindBlanks 3 (some .int) 1 0 0 [.ref 8, .int (nI p)] h (some (.int (nI (tkQ t n p)))) h := by
  subst ht
  refine JM_of [some (.ref 8), some (.int (nI p)), none] (by decide) (Nat.le_of_ble_eq_true rfl) rfl ?_
  refine J_iload_n (pq := 1) dX5_behindBlanks_0 rfl rfl (J_istore_m 2 (pq := 2) dX5_behindBlanks_1 rfl rfl (Nat.le_of_ble_eq_true rfl) (Nat.le_of_ble_eq_true rfl) rfl (?_))
  refine J_loop (σ := Nat) (fun k => [some (.ref 8), some (.int (nI p)), some (.int (nI k))]) (fun _ => []) (fun _ => h) (fun k => k ≤ n ∧ rn (blk (gi h 2)) n k = tkQ (gi h 2) n p) (fun k => n - k) p rfl rfl rfl ⟨hp, rfl⟩ (fun k hk ih => ?_)
  obtain ⟨k1, k2⟩ := hk
  refine J_iload_n (pq := 3) dX5_behindBlanks_2 rfl rfl (J_aload_n (pq := 4) dX5_behindBlanks_3 rfl rfl (J_getA (pq := 7) dX5_behindBlanks_4 rfl f_X5_19 (by decide +kernel) (by first | exact hc0 | exact hd0 | exact hK.at rfl) (hX _ _ _ rfl) (J_virtF (pq := 10) dX5_behindBlanks_7 rfl (j_X6_size hK) rfl tg_X6_size l_X5_32 vi_X6_size (by first | exact hc0 | exact hd0 | exact hK.at rfl) ⟨by decide, rfl⟩ (Nat.le_of_ble_eq_true rfl) (Nat.zero_le _) (Nat.zero_le _) (Nat.le_of_ble_eq_true rfl) (J_icmp_ge (pq := 13) (tgt := 47) dX5_behindBlanks_10 rfl rfl (fun c => ?_) (fun c => ?_)))))
  · rw [hn, nI_leI (by omega) (by omega)] at c
    rw [rn_e (by omega)] at k2
    refine J_aload_n (pq := 48) dX5_behindBlanks_47 rfl rfl (J_getA (pq := 51) dX5_behindBlanks_48 rfl f_X5_19 (by decide +kernel) (by first | exact hc0 | exact hd0 | exact hK.at rfl) (hX _ _ _ rfl) (J_virtF (pq := 54) dX5_behindBlanks_51 rfl (j_X6_size hK) rfl tg_X6_size l_X5_32 vi_X6_size (by first | exact hc0 | exact hd0 | exact hK.at rfl) ⟨by decide, rfl⟩ (Nat.le_of_ble_eq_true rfl) (Nat.zero_le _) (Nat.zero_le _) (Nat.le_of_ble_eq_true rfl) (J_iret dX5_behindBlanks_54 rfl rfl ?_)))
    exact ⟨by rw [hn, ← k2, show k = n by omega], rfl⟩
  rw [hn, nI_leI (by omega) (by omega)] at c
  have hkn : k < n := by omega
  have hat := j_at (x := x) (k := k) hK hX hn hn4 (by omega)
  rw [show tat (gi h 2) n k = gi h 2 k from by unfold tat; rw [if_pos hkn]] at hat
  have go : blk (gi h 2) k = true → J x yX5_behindBlanks cX5_behindBlanks 3 (some .int) 1 0 0 (fun v g => v = some (.int (nI (tkQ (gi h 2) n p))) ∧ g = h) 41 [some (.ref 8), some (.int (nI p)), some (.int (nI k))] [] h := fun hb => by
    refine J_iinc (pq := 44) dX5_behindBlanks_41 rfl c_iconst_1 rfl (Nat.le_of_ble_eq_true rfl) rfl (J_goto (tgt := 2) dX5_behindBlanks_44 rfl (?_))
    rw [nI_1]
    exact ih (k + 1) ⟨by omega, by rw [← rn_s ⟨hkn, hb⟩]; exact k2⟩ (by omega)
  refine J_aload_n (pq := 14) dX5_behindBlanks_13 rfl rfl (J_getA (pq := 17) dX5_behindBlanks_14 rfl f_X5_19 (by decide +kernel) (by first | exact hc0 | exact hd0 | exact hK.at rfl) (hX _ _ _ rfl) (J_iload_n (pq := 18) dX5_behindBlanks_17 rfl rfl (J_virtF (pq := 21) dX5_behindBlanks_18 rfl (hat) rfl tg_X6_at l_X5_140 vi_X6_at (by first | exact hc0 | exact hd0 | exact hK.at rfl) ⟨by decide, rfl⟩ (Nat.le_of_ble_eq_true rfl) (Nat.zero_le _) (Nat.zero_le _) (Nat.le_of_ble_eq_true rfl) (J_bipush (pq := 23) dX5_behindBlanks_21 rfl c_bipush_32 (J_icmp_eq (pq := 26) (tgt := 41) dX5_behindBlanks_23 rfl rfl (fun c => ?_) (fun c => ?_))))))
  · exact go (by unfold blk; rw [decide_eq_true c]; rfl)
  have c1 := c
  refine J_aload_n (pq := 27) dX5_behindBlanks_26 rfl rfl (J_getA (pq := 30) dX5_behindBlanks_27 rfl f_X5_19 (by decide +kernel) (by first | exact hc0 | exact hd0 | exact hK.at rfl) (hX _ _ _ rfl) (J_iload_n (pq := 31) dX5_behindBlanks_30 rfl rfl (J_virtF (pq := 34) dX5_behindBlanks_31 rfl (hat) rfl tg_X6_at l_X5_140 vi_X6_at (by first | exact hc0 | exact hd0 | exact hK.at rfl) ⟨by decide, rfl⟩ (Nat.le_of_ble_eq_true rfl) (Nat.zero_le _) (Nat.zero_le _) (Nat.le_of_ble_eq_true rfl) (J_bipush (pq := 36) dX5_behindBlanks_34 rfl c_bipush_10 (J_icmp_eq (pq := 39) (tgt := 41) dX5_behindBlanks_36 rfl rfl (fun c => ?_) (fun c => ?_))))))
  · exact go (by unfold blk; rw [decide_eq_true c, Bool.or_true])
  rw [rn_e (fun q => by unfold blk at q; rw [decide_eq_false c1, decide_eq_false c] at q; exact absurd q.2 (by decide))] at k2
  refine J_iload_n (pq := 40) dX5_behindBlanks_39 rfl rfl (J_iret dX5_behindBlanks_40 rfl rfl ?_)
  exact ⟨by rw [k2], rfl⟩
theorem j_same {p K : Nat} {f : Nat → Bool} (hK : Kin h) (hX : XR h) (hn : gi h 1 1 = nI n) (hn4 : n ≤ 400) (ht : gi h 2 = t) (hp : p ≤ n) (hK5 : K < 5) (hf : ∀ j, j < n → (f j = true ↔ kb (t j) = K)) : JF x yX5_behindSame cX5_behindSame 4 (some .int) 1 0 0 [.ref 8, .int (nI p), .int (nI K)] h (some (.int (nI (rn f n p)))) h := by
  subst ht
  refine JM_of [some (.ref 8), some (.int (nI p)), some (.int (nI K)), none] (by decide) (Nat.le_of_ble_eq_true rfl) rfl ?_
  refine J_iload_n (pq := 1) dX5_behindSame_0 rfl rfl (J_istore_m 3 (pq := 2) dX5_behindSame_1 rfl rfl (Nat.le_of_ble_eq_true rfl) (Nat.le_of_ble_eq_true rfl) rfl (?_))
  refine J_loop (σ := Nat) (fun k => [some (.ref 8), some (.int (nI p)), some (.int (nI K)), some (.int (nI k))]) (fun _ => []) (fun _ => h) (fun k => k ≤ n ∧ rn f n k = rn f n p) (fun k => n - k) p rfl rfl rfl ⟨hp, rfl⟩ (fun k hk ih => ?_)
  obtain ⟨k1, k2⟩ := hk
  refine J_iload_n (pq := 3) dX5_behindSame_2 rfl rfl (J_aload_n (pq := 4) dX5_behindSame_3 rfl rfl (J_getA (pq := 7) dX5_behindSame_4 rfl f_X5_19 (by decide +kernel) (by first | exact hc0 | exact hd0 | exact hK.at rfl) (hX _ _ _ rfl) (J_virtF (pq := 10) dX5_behindSame_7 rfl (j_X6_size hK) rfl tg_X6_size l_X5_32 vi_X6_size (by first | exact hc0 | exact hd0 | exact hK.at rfl) ⟨by decide, rfl⟩ (Nat.le_of_ble_eq_true rfl) (Nat.zero_le _) (Nat.zero_le _) (Nat.le_of_ble_eq_true rfl) (J_icmp_ge (pq := 13) (tgt := 36) dX5_behindSame_10 rfl rfl (fun c => ?_) (fun c => ?_)))))
  · rw [hn, nI_leI (by omega) (by omega)] at c
    rw [rn_e (by omega)] at k2
    refine J_aload_n (pq := 37) dX5_behindSame_36 rfl rfl (J_getA (pq := 40) dX5_behindSame_37 rfl f_X5_19 (by decide +kernel) (by first | exact hc0 | exact hd0 | exact hK.at rfl) (hX _ _ _ rfl) (J_virtF (pq := 43) dX5_behindSame_40 rfl (j_X6_size hK) rfl tg_X6_size l_X5_32 vi_X6_size (by first | exact hc0 | exact hd0 | exact hK.at rfl) ⟨by decide, rfl⟩ (Nat.le_of_ble_eq_true rfl) (Nat.zero_le _) (Nat.zero_le _) (Nat.le_of_ble_eq_true rfl) (J_iret dX5_behindSame_43 rfl rfl ?_)))
    exact ⟨by rw [hn, ← k2, show k = n by omega], rfl⟩
  rw [hn, nI_leI (by omega) (by omega)] at c
  have hkn : k < n := by omega
  have hat := j_at (x := x) (k := k) hK hX hn hn4 (by omega)
  rw [show tat (gi h 2) n k = gi h 2 k from by unfold tat; rw [if_pos hkn]] at hat
  have hkl := kb_lt (gi h 2 k)
  refine J_aload_n (pq := 14) dX5_behindSame_13 rfl rfl (J_getA (pq := 17) dX5_behindSame_14 rfl f_X5_19 (by decide +kernel) (by first | exact hc0 | exact hd0 | exact hK.at rfl) (hX _ _ _ rfl) (J_iload_n (pq := 18) dX5_behindSame_17 rfl rfl (J_virtF (pq := 21) dX5_behindSame_18 rfl (hat) rfl tg_X6_at l_X5_140 vi_X6_at (by first | exact hc0 | exact hd0 | exact hK.at rfl) ⟨by decide, rfl⟩ (Nat.le_of_ble_eq_true rfl) (Nat.zero_le _) (Nat.zero_le _) (Nat.le_of_ble_eq_true rfl) (J_statF (pq := 24) dX5_behindSame_21 rfl (j_kind5) rfl tg_X5_kindOfByte l_X5_156 st_X5_kindOfByte (Nat.le_of_ble_eq_true rfl) (Nat.zero_le _) (Nat.zero_le _) (Nat.le_of_ble_eq_true rfl) (J_iload_n (pq := 25) dX5_behindSame_24 rfl rfl (J_icmp_eq (pq := 28) (tgt := 30) dX5_behindSame_25 rfl rfl (fun c => ?_) (fun c => ?_)))))))
  · rw [nI_eq (by omega) (by omega)] at c
    refine J_iinc (pq := 33) dX5_behindSame_30 rfl c_iconst_1 rfl (Nat.le_of_ble_eq_true rfl) rfl (J_goto (tgt := 2) dX5_behindSame_33 rfl (?_))
    rw [nI_1]
    exact ih (k + 1) ⟨by omega, by rw [← rn_s ⟨hkn, (hf k hkn).mpr c⟩]; exact k2⟩ (by omega)
  · rw [nI_eq (by omega) (by omega)] at c
    rw [rn_e (fun q => c ((hf k hkn).mp q.2))] at k2
    refine J_iload_n (pq := 29) dX5_behindSame_28 rfl rfl (J_iret dX5_behindSame_29 rfl rfl ?_)
    exact ⟨by rw [k2], rfl⟩
end T2
