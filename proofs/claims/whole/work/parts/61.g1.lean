-- the class: lines of a file
theorem dg_m1 : dg (-1) = -1 := by decide
theorem dg_eq {v : Int32} : dg v = -1 ↔ isdig v = false := by
  constructor
  · intro h
    cases hd : isdig v with
    | false => rfl
    | true =>
      have := dg_t hd
      rw [h] at this
      have h2 : (-1 : Int32).toInt = (nI (dv v)).toInt := by rw [this.1]
      rw [nI_toInt (by omega)] at h2
      simp at h2
  · exact dg_f
theorem ok1_iff {t : Nat → Int32} {a e : Nat} (hae : a < e) : ok1 t a e = true ↔ t a = 58 ∧ 11 ≤ e - a ∧ alld t (a + 1) e = true ∧ e - a = 11 + 2 * pv t (a + 1) ∧ (pv t (a + 7) = 0 ∨ (pv t (a + 7) = 1 ∧ pv t (a + 1) = 0)) := by
  unfold ok1
  simp only [Bool.and_eq_true, decide_eq_true_eq]
  constructor
  · rintro ⟨⟨⟨⟨⟨⟨h1, h2⟩, h3⟩, h4⟩, h5⟩, h6⟩, h7⟩
    exact ⟨h1, by omega, h3, by omega, by omega⟩
  · rintro ⟨h1, h2, h3, h4, h5⟩
    exact ⟨⟨⟨⟨⟨⟨h1, by omega⟩, h3⟩, by omega⟩, by omega⟩, by omega⟩, by omega⟩
theorem ok2_iff {t : Nat → Int32} {a e : Nat} (hae : a < e) : ok2 t a e = true ↔ t a = 83 ∧ 10 ≤ e - a ∧ alld t (a + 2) e = true ∧ e - a = 4 + 2 * pv t (a + 2) ∧ (t (a + 1) = 48 ∨ t (a + 1) = 49 ∨ (t (a + 1) = 57 ∧ pv t (a + 2) = 3)) := by
  unfold ok2
  simp only [Bool.and_eq_true, Bool.or_eq_true, decide_eq_true_eq]
  constructor
  · rintro ⟨⟨⟨⟨⟨⟨⟨h0, h1⟩, h2⟩, h3⟩, h4⟩, h5⟩, h6⟩, h7⟩
    refine ⟨h1, by omega, h4, by omega, ?_⟩
    rcases h2 with (h2 | h2) | h2
    · exact Or.inl h2
    · exact Or.inr (Or.inl h2)
    · exact Or.inr (Or.inr ⟨h2, Decidable.byContradiction fun q => h7 ⟨h2, q⟩⟩)
  · rintro ⟨h1, h2, h3, h4, h5⟩
    refine ⟨⟨⟨⟨⟨⟨⟨by omega, h1⟩, ?_⟩, by omega⟩, h3⟩, by omega⟩, by omega⟩, ?_⟩
    · rcases h5 with h5 | h5 | h5
      · exact Or.inl (Or.inl h5)
      · exact Or.inl (Or.inr h5)
      · exact Or.inr h5.1
    · rintro ⟨q1, q2⟩
      rcases h5 with h5 | h5 | h5
      · rw [h5] at q1; exact absurd q1 (by decide)
      · rw [h5] at q1; exact absurd q1 (by decide)
      · exact q2 h5.2
section G1
variable {x : JX} {h : JH} {n : Nat}
theorem j_dgt {k : Nat} (hK : Kin h) (hX : XR h) (hn : gi h 1 1 = nI n) (hn4 : n ≤ 400) (hk : k < 2147483648) : JF x yX6_digitAt cX6_digitAt 3 (some .int) 1 0 0 [.ref 1, .int (nI k)] h (some (.int (dg (tat (gi h 2) n k)))) h := by
  refine JM_of [some (.ref 1), some (.int (nI k)), none] (by decide) (Nat.le_of_ble_eq_true rfl) rfl ?_
  generalize hb : tat (gi h 2) n k = b
  have hat := j_at (x := x) hK hX hn hn4 hk
  rw [hb] at hat
  unfold dg isin
  refine J_aload_n (pq := 1) dX6_digitAt_0 rfl rfl (J_iload_n (pq := 2) dX6_digitAt_1 rfl rfl (J_virtF (pq := 5) dX6_digitAt_2 rfl (hat) rfl tg_X6_at l_X6_23 vi_X6_at (hK.at rfl) ⟨by decide, rfl⟩ (Nat.le_of_ble_eq_true rfl) (Nat.zero_le _) (Nat.zero_le _) (Nat.le_of_ble_eq_true rfl) (J_istore_m 2 (pq := 6) dX6_digitAt_5 rfl rfl (Nat.le_of_ble_eq_true rfl) (Nat.le_of_ble_eq_true rfl) rfl (J_iload_n (pq := 7) dX6_digitAt_6 rfl rfl (J_bipush (pq := 9) dX6_digitAt_7 rfl c_bipush_48 (?_))))))
  have part2 : ¬ (48 ≤ b ∧ b ≤ 57) → J x yX6_digitAt cX6_digitAt 3 (some .int) 1 0 0 (fun v g => v = some (.int (if (decide (48 ≤ b) && decide (b ≤ 57)) = true then b - 48 else if (decide (65 ≤ b) && decide (b ≤ 70)) = true then b - 65 + 10 else -1)) ∧ g = h) 23 [some (.ref 1), some (.int (nI k)), some (.int b)] [] h := fun hno => by
    rw [if_neg (by simpa using hno)]
    refine J_iload_n (pq := 24) dX6_digitAt_23 rfl rfl (J_bipush (pq := 26) dX6_digitAt_24 rfl c_bipush_65 (J_icmp_lt (pq := 29) (tgt := 45) dX6_digitAt_26 rfl rfl (fun c => ?_) (fun c => ?_)))
    · refine J_iconst (pq := 46) dX6_digitAt_45 rfl c_iconst_m1 (J_iret dX6_digitAt_46 rfl rfl ?_)
      exact ⟨by rw [if_neg (by simp; intro q; exact absurd c (i_nlt.mpr q))], rfl⟩
    · have c1 := i_nlt.mp c
      refine J_iload_n (pq := 30) dX6_digitAt_29 rfl rfl (J_bipush (pq := 32) dX6_digitAt_30 rfl c_bipush_70 (J_icmp_gt (pq := 35) (tgt := 45) dX6_digitAt_32 rfl rfl (fun c => ?_) (fun c => ?_)))
      · refine J_iconst (pq := 46) dX6_digitAt_45 rfl c_iconst_m1 (J_iret dX6_digitAt_46 rfl rfl ?_)
        exact ⟨by rw [if_neg (by simp [c1, c])], rfl⟩
      · refine J_iload_n (pq := 36) dX6_digitAt_35 rfl rfl (J_bipush (pq := 38) dX6_digitAt_36 rfl c_bipush_65 (J_isub (pq := 39) dX6_digitAt_38 rfl (J_bipush (pq := 41) dX6_digitAt_39 rfl c_bipush_10 (J_iadd (pq := 42) dX6_digitAt_41 rfl (J_goto (tgt := 46) dX6_digitAt_42 rfl (J_iret dX6_digitAt_46 rfl rfl ?_))))))
        exact ⟨by rw [if_pos (by simp [c1, i_nlt.mp c])], rfl⟩
  refine J_icmp_lt (pq := 12) (tgt := 23) dX6_digitAt_9 rfl rfl (fun c => ?_) (fun c => ?_)
  · exact part2 (fun q => absurd c (i_nlt.mpr q.1))
  · have c1 := i_nlt.mp c
    refine J_iload_n (pq := 13) dX6_digitAt_12 rfl rfl (J_bipush (pq := 15) dX6_digitAt_13 rfl c_bipush_57 (J_icmp_gt (pq := 18) (tgt := 23) dX6_digitAt_15 rfl rfl (fun c => ?_) (fun c => ?_)))
    · exact part2 (fun q => absurd c (i_nlt.mpr q.2))
    · refine J_iload_n (pq := 19) dX6_digitAt_18 rfl rfl (J_bipush (pq := 21) dX6_digitAt_19 rfl c_bipush_48 (J_isub (pq := 22) dX6_digitAt_21 rfl (J_iret dX6_digitAt_22 rfl rfl ?_)))
      exact ⟨by rw [if_pos (by simp [c1, i_nlt.mp c])], rfl⟩
theorem j_pair {k : Nat} (hK : Kin h) (hX : XR h) (hn : gi h 1 1 = nI n) (hn4 : n ≤ 400) (hk : k + 1 < n) (hd1 : isdig (gi h 2 k) = true) (hd2 : isdig (gi h 2 (k + 1)) = true) : JF x yX6_pairAt cX6_pairAt 2 (some .int) 2 0 0 [.ref 1, .int (nI k)] h (some (.int (nI (pv (gi h 2) k)))) h := by
  refine JM_of [some (.ref 1), some (.int (nI k))] (by decide) (Nat.le_of_ble_eq_true rfl) rfl ?_
  have e1 : tat (gi h 2) n k = gi h 2 k := by unfold tat; rw [if_pos (by omega)]
  have e2 : tat (gi h 2) n (k + 1) = gi h 2 (k + 1) := by unfold tat; rw [if_pos (by omega)]
  refine J_aload_n (pq := 1) dX6_pairAt_0 rfl rfl (J_iload_n (pq := 2) dX6_pairAt_1 rfl rfl (J_virtF (pq := 5) dX6_pairAt_2 rfl (j_dgt hK hX hn hn4 (by omega)) rfl tg_X6_digitAt l_X6_27 vi_X6_digitAt (hK.at rfl) ⟨by decide, rfl⟩ (Nat.le_of_ble_eq_true rfl) (Nat.zero_le _) (Nat.zero_le _) (Nat.le_of_ble_eq_true rfl) (?_)))
  rw [e1, (dg_t hd1).1]
  refine J_bipush (pq := 7) dX6_pairAt_5 rfl c_bipush_16 (J_imul (pq := 8) dX6_pairAt_7 rfl (J_aload_n (pq := 9) dX6_pairAt_8 rfl rfl (J_iload_n (pq := 10) dX6_pairAt_9 rfl rfl (J_iconst (pq := 11) dX6_pairAt_10 rfl c_iconst_1 (J_iadd (pq := 12) dX6_pairAt_11 rfl (?_))))))
  rw [nI_1]
  refine J_virtF (pq := 15) dX6_pairAt_12 rfl (j_dgt hK hX hn hn4 (by omega)) rfl tg_X6_digitAt l_X6_27 vi_X6_digitAt (hK.at rfl) ⟨by decide, rfl⟩ (Nat.le_of_ble_eq_true rfl) (Nat.zero_le _) (Nat.zero_le _) (Nat.le_of_ble_eq_true rfl) (?_)
  rw [e2, (dg_t hd2).1]
  refine J_iadd (pq := 16) dX6_pairAt_15 rfl (J_iret dX6_pairAt_16 rfl rfl ?_)
  refine ⟨?_, rfl⟩
  rw [show (16 : Int32) = nI 16 from rfl, pk_mul, nI_add, Nat.mul_comm]
  rfl
theorem j_digits {a e : Nat} (hK : Kin h) (hX : XR h) (hn : gi h 1 1 = nI n) (hn4 : n ≤ 400) (he : e ≤ n) (hae : a ≤ e) : JF x yX2_areDigits cX2_areDigits 4 (some .boolean) 2 0 0 [.ref 5, .int (nI a), .int (nI e)] h (some (.int (bi (alld (gi h 2) a e)))) h := by
  refine JM_of [some (.ref 5), some (.int (nI a)), some (.int (nI e)), none] (by decide) (Nat.le_of_ble_eq_true rfl) rfl ?_
  refine J_iload_n (pq := 1) dX2_areDigits_0 rfl rfl (J_istore_m 3 (pq := 2) dX2_areDigits_1 rfl rfl (Nat.le_of_ble_eq_true rfl) (Nat.le_of_ble_eq_true rfl) rfl (?_))
  refine J_loop (σ := Nat) (fun k => [some (.ref 5), some (.int (nI a)), some (.int (nI e)), some (.int (nI k))]) (fun _ => []) (fun _ => h) (fun k => a ≤ k ∧ k ≤ e ∧ ∀ j, j < k → a ≤ j → isdig (gi h 2 j) = true) (fun k => e - k) a rfl rfl rfl ⟨Nat.le_refl _, hae, fun j h1 h2 => by omega⟩ (fun k hk ih => ?_)
  obtain ⟨k1, k2, k3⟩ := hk
  refine J_iload_n (pq := 3) dX2_areDigits_2 rfl rfl (J_iload_n (pq := 4) dX2_areDigits_3 rfl rfl (J_icmp_ge (pq := 7) (tgt := 27) dX2_areDigits_4 rfl rfl (fun c => ?_) (fun c => ?_)))
  · rw [nI_leI (by omega) (by omega)] at c
    refine J_iconst (pq := 28) dX2_areDigits_27 rfl c_iconst_1 (J_iret dX2_areDigits_28 rfl (by first | rfl | exact bi_nar _) ?_)
    refine ⟨?_, rfl⟩
    rw [alld_t.mpr (fun j h1 h2 => k3 j (by omega) h2)]; rfl
  · rw [nI_leI (by omega) (by omega)] at c
    have e1 : tat (gi h 2) n k = gi h 2 k := by unfold tat; rw [if_pos (by omega)]
    refine J_aload_n (pq := 8) dX2_areDigits_7 rfl rfl (J_getA (pq := 11) dX2_areDigits_8 rfl f_X2_15 (by decide +kernel) (by first | exact hc0 | exact hd0 | exact hK.at rfl) (hX _ _ _ rfl) (J_iload_n (pq := 12) dX2_areDigits_11 rfl rfl (J_virtF (pq := 15) dX2_areDigits_12 rfl (j_dgt hK hX hn hn4 (by omega)) rfl tg_X6_digitAt l_X2_114 vi_X6_digitAt (by first | exact hc0 | exact hd0 | exact hK.at rfl) ⟨by decide, rfl⟩ (Nat.le_of_ble_eq_true rfl) (Nat.zero_le _) (Nat.zero_le _) (Nat.le_of_ble_eq_true rfl) (J_iconst (pq := 16) dX2_areDigits_15 rfl c_iconst_m1 (J_icmp_ne (pq := 19) (tgt := 21) dX2_areDigits_16 rfl rfl (fun c => ?_) (fun c => ?_))))))
    · rw [e1] at c
      have hd : isdig (gi h 2 k) = true := by
        cases hq : isdig (gi h 2 k) with
        | true => rfl
        | false => exact absurd (dg_eq.mpr hq) c
      refine J_iinc (pq := 24) dX2_areDigits_21 rfl c_iconst_1 rfl (Nat.le_of_ble_eq_true rfl) rfl (J_goto (tgt := 2) dX2_areDigits_24 rfl (?_))
      rw [nI_1]
      refine ih (k + 1) ⟨by omega, by omega, fun j h1 h2 => ?_⟩ (by omega)
      by_cases hj : j = k
      · rw [hj]; exact hd
      · exact k3 j (by omega) h2
    · rw [e1] at c
      have hd := dg_eq.mp c
      refine J_iconst (pq := 20) dX2_areDigits_19 rfl c_iconst_0 (J_iret dX2_areDigits_20 rfl (by first | rfl | exact bi_nar _) ?_)
      refine ⟨?_, rfl⟩
      rw [show alld (gi h 2) a e = false from Bool.eq_false_iff.mpr (fun q => by rw [alld_t.mp q k (by omega) k1] at hd; cases hd)]
      rfl
theorem j_sum {a m : Nat} (hK : Kin h) (hX : XR h) (hn : gi h 1 1 = nI n) (hn4 : n ≤ 400) (he : a + 2 * m ≤ n) (hd : alld (gi h 2) a (a + 2 * m) = true) : JF x yX2_sumOf cX2_sumOf 5 (some .int) 3 0 0 [.ref 5, .int (nI a), .int (nI (a + 2 * m))] h (some (.int (nI (psum (gi h 2) a m)))) h := by
  refine JM_of [some (.ref 5), some (.int (nI a)), some (.int (nI (a + 2 * m))), none, none] (by decide) (Nat.le_of_ble_eq_true rfl) rfl ?_
  have hal := alld_t.mp hd
  refine J_iconst (pq := 1) dX2_sumOf_0 rfl c_iconst_0 (J_istore_m 3 (pq := 2) dX2_sumOf_1 rfl rfl (Nat.le_of_ble_eq_true rfl) (Nat.le_of_ble_eq_true rfl) rfl (J_iload_n (pq := 3) dX2_sumOf_2 rfl rfl (J_istore (pq := 5) dX2_sumOf_3 rfl (Nat.le_of_ble_eq_true rfl) (Nat.le_of_ble_eq_true rfl) rfl (?_))))
  refine J_loop (σ := Nat) (fun k => [some (.ref 5), some (.int (nI a)), some (.int (nI (a + 2 * m))), some (.int (nI (psum (gi h 2) a k))), some (.int (nI (a + 2 * k)))]) (fun _ => []) (fun _ => h) (fun k => k ≤ m) (fun k => m - k) 0 rfl rfl rfl (Nat.zero_le _) (fun k hk ih => ?_)
  refine J_iload (pq := 7) dX2_sumOf_5 rfl rfl (J_iload_n (pq := 8) dX2_sumOf_7 rfl rfl (J_icmp_ge (pq := 11) (tgt := 29) dX2_sumOf_8 rfl rfl (fun c => ?_) (fun c => ?_)))
  · rw [nI_leI (by omega) (by omega)] at c
    refine J_iload_n (pq := 30) dX2_sumOf_29 rfl rfl (J_iret dX2_sumOf_30 rfl rfl ?_)
    rw [show k = m by omega]
    exact ⟨rfl, rfl⟩
  · rw [nI_leI (by omega) (by omega)] at c
    refine J_iload_n (pq := 12) dX2_sumOf_11 rfl rfl (J_aload_n (pq := 13) dX2_sumOf_12 rfl rfl (J_getA (pq := 16) dX2_sumOf_13 rfl f_X2_15 (by decide +kernel) (by first | exact hc0 | exact hd0 | exact hK.at rfl) (hX _ _ _ rfl) (J_iload (pq := 18) dX2_sumOf_16 rfl rfl (J_virtF (pq := 21) dX2_sumOf_18 rfl (j_pair hK hX hn hn4 (by omega) (hal _ (by omega) (by omega)) (hal _ (by omega) (by omega))) rfl tg_X6_pairAt l_X2_108 vi_X6_pairAt (by first | exact hc0 | exact hd0 | exact hK.at rfl) ⟨by decide, rfl⟩ (Nat.le_of_ble_eq_true rfl) (Nat.zero_le _) (Nat.zero_le _) (Nat.le_of_ble_eq_true rfl) (J_iadd (pq := 22) dX2_sumOf_21 rfl (J_istore_m 3 (pq := 23) dX2_sumOf_22 rfl rfl (Nat.le_of_ble_eq_true rfl) (Nat.le_of_ble_eq_true rfl) rfl (J_iinc (pq := 26) dX2_sumOf_23 rfl c_iconst_2 rfl (Nat.le_of_ble_eq_true rfl) rfl (J_goto (tgt := 5) dX2_sumOf_26 rfl (?_)))))))))
    rw [nI_add, show (2 : Int32) = nI 2 from rfl, nI_add, show a + 2 * k + 2 = a + 2 * (k + 1) by omega]
    exact ih (k + 1) (by omega) (by omega)
/-- only what is known of the latest line is changed -/
def LnX (h g : JH) : Prop := g.2 = h.2 ∧ ∀ a b, ¬ (a = 5 ∧ 5 ≤ b ∧ b ≤ 8) → gi g a b = gi h a b
theorem LnX.si (h : JH) (b : Nat) (v : Int32) (hb : 5 ≤ b ∧ b ≤ 8) {g : JH} (hg : LnX h g) : LnX h (si g 5 b v) := ⟨hg.1, fun a c q => by rw [gi_si, if_neg (by omega)]; exact hg.2 a c q⟩
theorem j_colon {a e : Nat} (hK : Kin h) (hX : XR h) (hn : gi h 1 1 = nI n) (hn4 : n ≤ 400) (he : e ≤ n) (hae : a < e) : JM x yX2_isColonLine cX2_isColonLine 5 (some .boolean) 3 0 0 [.ref 5, .int (nI a), .int (nI e)] h (fun v g => v = some (.int (bi (ok1 (gi h 2) a e))) ∧ LnX h g ∧ (ok1 (gi h 2) a e = true → gi g 5 5 = nI (if pv (gi h 2) (a + 7) = 0 then 0 else 2) ∧ gi g 5 6 = nI (256 * pv (gi h 2) (a + 3) + pv (gi h 2) (a + 5)) ∧ gi g 5 7 = nI (a + 9) ∧ gi g 5 8 = nI (pv (gi h 2) (a + 1)))) := by
  refine JM_of [some (.ref 5), some (.int (nI a)), some (.int (nI e)), none, none] (by decide) (Nat.le_of_ble_eq_true rfl) rfl ?_
  have h0 : tat (gi h 2) n a = gi h 2 a := by unfold tat; rw [if_pos (by omega)]
  have hno : ∀ g, LnX h g → ok1 (gi h 2) a e = false → (some (Value.int 0) = some (.int (bi (ok1 (gi h 2) a e))) ∧ LnX h g ∧ (ok1 (gi h 2) a e = true → gi g 5 5 = nI (if pv (gi h 2) (a + 7) = 0 then 0 else 2) ∧ gi g 5 6 = nI (256 * pv (gi h 2) (a + 3) + pv (gi h 2) (a + 5)) ∧ gi g 5 7 = nI (a + 9) ∧ gi g 5 8 = nI (pv (gi h 2) (a + 1)))) := fun g hg hf => by
    rw [hf]; exact ⟨rfl, hg, fun q => by cases q⟩
  have hrf : LnX h h := ⟨rfl, fun _ _ _ => rfl⟩
  have hiff := ok1_iff (t := gi h 2) hae
  refine J_aload_n (pq := 1) dX2_isColonLine_0 rfl rfl (J_getA (pq := 4) dX2_isColonLine_1 rfl f_X2_15 (by decide +kernel) (by first | exact hc0 | exact hd0 | exact hK.at rfl) (hX _ _ _ rfl) (J_iload_n (pq := 5) dX2_isColonLine_4 rfl rfl (J_virtF (pq := 8) dX2_isColonLine_5 rfl (j_at hK hX hn hn4 (by omega)) rfl tg_X6_at l_X2_65 vi_X6_at (by first | exact hc0 | exact hd0 | exact hK.at rfl) ⟨by decide, rfl⟩ (Nat.le_of_ble_eq_true rfl) (Nat.zero_le _) (Nat.zero_le _) (Nat.le_of_ble_eq_true rfl) (J_bipush (pq := 10) dX2_isColonLine_8 rfl c_bipush_58 (J_icmp_ne (pq := 13) (tgt := 32) dX2_isColonLine_10 rfl rfl (fun c => ?_) (fun c => ?_))))))
  · rw [h0] at c
    refine J_iconst (pq := 33) dX2_isColonLine_32 rfl c_iconst_0 (J_iret dX2_isColonLine_33 rfl (by first | rfl | exact bi_nar _) ?_)
    exact hno h hrf (Bool.eq_false_iff.mpr (fun q => c (hiff.mp q).1))
  rw [h0] at c
  have c58 := c
  refine J_iload_n (pq := 14) dX2_isColonLine_13 rfl rfl (J_iload_n (pq := 15) dX2_isColonLine_14 rfl rfl (J_isub (pq := 16) dX2_isColonLine_15 rfl (?_)))
  rw [pk_sub (by omega)]
  refine J_bipush (pq := 18) dX2_isColonLine_16 rfl c_bipush_11 (J_icmp_lt (pq := 21) (tgt := 32) dX2_isColonLine_18 rfl rfl (fun c => ?_) (fun c => ?_))
  · rw [show (11 : Int32) = nI 11 from rfl, nI_ltI (by omega) (by omega)] at c
    refine J_iconst (pq := 33) dX2_isColonLine_32 rfl c_iconst_0 (J_iret dX2_isColonLine_33 rfl (by first | rfl | exact bi_nar _) ?_)
    exact hno h hrf (Bool.eq_false_iff.mpr (fun q => by have := (hiff.mp q).2.1; omega))
  rw [show (11 : Int32) = nI 11 from rfl, nI_ltI (by omega) (by omega)] at c
  have c11 := c
  refine J_aload_n (pq := 22) dX2_isColonLine_21 rfl rfl (J_iload_n (pq := 23) dX2_isColonLine_22 rfl rfl (J_iconst (pq := 24) dX2_isColonLine_23 rfl c_iconst_1 (J_iadd (pq := 25) dX2_isColonLine_24 rfl (?_))))
  rw [nI_1]
  refine J_iload_n (pq := 26) dX2_isColonLine_25 rfl rfl (J_virtF (pq := 29) dX2_isColonLine_26 rfl (j_digits hK hX hn hn4 he (by omega)) rfl tg_X2_areDigits l_X2_111 vi_X2_areDigits (by first | exact hc0 | exact hd0 | exact hK.at rfl) ⟨by decide, rfl⟩ (Nat.le_of_ble_eq_true rfl) (Nat.zero_le _) (Nat.zero_le _) (Nat.le_of_ble_eq_true rfl) (J_if_ne (pq := 32) (tgt := 34) dX2_isColonLine_29 rfl rfl (fun c => ?_) (fun c => ?_)))
  rotate_left
  · rw [bi_0] at c
    refine J_iconst (pq := 33) dX2_isColonLine_32 rfl c_iconst_0 (J_iret dX2_isColonLine_33 rfl (by first | rfl | exact bi_nar _) ?_)
    exact hno h hrf (Bool.eq_false_iff.mpr (fun q => by rw [(hiff.mp q).2.2.1] at c; cases c))
  rw [bi_0, Bool.not_eq_false] at c
  have cal := c
  have hal := alld_t.mp cal
  have pr : ∀ k, a + 1 ≤ k → k + 1 < e → JF x yX6_pairAt cX6_pairAt 2 (some .int) 2 0 0 [.ref 1, .int (nI k)] h (some (.int (nI (pv (gi h 2) k)))) h := fun k h1 h2 => j_pair hK hX hn hn4 (by omega) (hal _ (by omega) (by omega)) (hal _ (by omega) (by omega))
  have pl : ∀ k, a + 1 ≤ k → k + 1 < e → pv (gi h 2) k < 256 := fun k h1 h2 => pv_lt (hal _ (by omega) (by omega)) (hal _ (by omega) (by omega))
  have p1 := pl (a + 1) (by omega) (by omega)
  have p7 := pl (a + 7) (by omega) (by omega)
  have p3 := pl (a + 3) (by omega) (by omega)
  have p5 := pl (a + 5) (by omega) (by omega)
  refine J_aload_n (pq := 35) dX2_isColonLine_34 rfl rfl (J_getA (pq := 38) dX2_isColonLine_35 rfl f_X2_15 (by decide +kernel) (by first | exact hc0 | exact hd0 | exact hK.at rfl) (hX _ _ _ rfl) (J_iload_n (pq := 39) dX2_isColonLine_38 rfl rfl (J_iconst (pq := 40) dX2_isColonLine_39 rfl c_iconst_1 (J_iadd (pq := 41) dX2_isColonLine_40 rfl (?_)))))
  rw [nI_1]
  refine J_virtF (pq := 44) dX2_isColonLine_41 rfl (pr (a + 1) (by omega) (by omega)) rfl tg_X6_pairAt l_X2_108 vi_X6_pairAt (by first | exact hc0 | exact hd0 | exact hK.at rfl) ⟨by decide, rfl⟩ (Nat.le_of_ble_eq_true rfl) (Nat.zero_le _) (Nat.zero_le _) (Nat.le_of_ble_eq_true rfl) (J_istore_m 3 (pq := 45) dX2_isColonLine_44 rfl rfl (Nat.le_of_ble_eq_true rfl) (Nat.le_of_ble_eq_true rfl) rfl (J_aload_n (pq := 46) dX2_isColonLine_45 rfl rfl (J_getA (pq := 49) dX2_isColonLine_46 rfl f_X2_15 (by decide +kernel) (by first | exact hc0 | exact hd0 | exact hK.at rfl) (hX _ _ _ rfl) (J_iload_n (pq := 50) dX2_isColonLine_49 rfl rfl (J_bipush (pq := 52) dX2_isColonLine_50 rfl c_bipush_7 (J_iadd (pq := 53) dX2_isColonLine_52 rfl (?_)))))))
  rw [show (7 : Int32) = nI 7 from rfl, nI_add]
  refine J_virtF (pq := 56) dX2_isColonLine_53 rfl (pr (a + 7) (by omega) (by omega)) rfl tg_X6_pairAt l_X2_108 vi_X6_pairAt (by first | exact hc0 | exact hd0 | exact hK.at rfl) ⟨by decide, rfl⟩ (Nat.le_of_ble_eq_true rfl) (Nat.zero_le _) (Nat.zero_le _) (Nat.le_of_ble_eq_true rfl) (J_istore (pq := 58) dX2_isColonLine_56 rfl (Nat.le_of_ble_eq_true rfl) (Nat.le_of_ble_eq_true rfl) rfl (J_aload_n (pq := 59) dX2_isColonLine_58 rfl rfl (J_aload_n (pq := 60) dX2_isColonLine_59 rfl rfl (J_getA (pq := 63) dX2_isColonLine_60 rfl f_X2_15 (by decide +kernel) (by first | exact hc0 | exact hd0 | exact hK.at rfl) (hX _ _ _ rfl) (J_iload_n (pq := 64) dX2_isColonLine_63 rfl rfl (J_iconst (pq := 65) dX2_isColonLine_64 rfl c_iconst_3 (J_iadd (pq := 66) dX2_isColonLine_65 rfl (?_))))))))
  rw [show (3 : Int32) = nI 3 from rfl, nI_add]
  refine J_virtF (pq := 69) dX2_isColonLine_66 rfl (pr (a + 3) (by omega) (by omega)) rfl tg_X6_pairAt l_X2_108 vi_X6_pairAt (by first | exact hc0 | exact hd0 | exact hK.at rfl) ⟨by decide, rfl⟩ (Nat.le_of_ble_eq_true rfl) (Nat.zero_le _) (Nat.zero_le _) (Nat.le_of_ble_eq_true rfl) (J_sipush (pq := 72) dX2_isColonLine_69 rfl c_sipush_256 (J_imul (pq := 73) dX2_isColonLine_72 rfl (J_aload_n (pq := 74) dX2_isColonLine_73 rfl rfl (J_getA (pq := 77) dX2_isColonLine_74 rfl f_X2_15 (by decide +kernel) (by first | exact hc0 | exact hd0 | exact hK.at rfl) (hX _ _ _ rfl) (J_iload_n (pq := 78) dX2_isColonLine_77 rfl rfl (J_iconst (pq := 79) dX2_isColonLine_78 rfl c_iconst_5 (J_iadd (pq := 80) dX2_isColonLine_79 rfl (?_))))))))
  rw [show (5 : Int32) = nI 5 from rfl, nI_add, show (256 : Int32) = nI 256 from rfl, pk_mul]
  refine J_virtF (pq := 83) dX2_isColonLine_80 rfl (pr (a + 5) (by omega) (by omega)) rfl tg_X6_pairAt l_X2_108 vi_X6_pairAt (by first | exact hc0 | exact hd0 | exact hK.at rfl) ⟨by decide, rfl⟩ (Nat.le_of_ble_eq_true rfl) (Nat.zero_le _) (Nat.zero_le _) (Nat.le_of_ble_eq_true rfl) (J_iadd (pq := 84) dX2_isColonLine_83 rfl (?_))
  rw [nI_add]
  refine J_putI (pq := 87) dX2_isColonLine_84 rfl f_X2_102 (Or.inl rfl) (by first | exact hc0 | exact hd0 | exact hK.at rfl) (J_aload_n (pq := 88) dX2_isColonLine_87 rfl rfl (J_iload_n (pq := 89) dX2_isColonLine_88 rfl rfl (J_bipush (pq := 91) dX2_isColonLine_89 rfl c_bipush_9 (J_iadd (pq := 92) dX2_isColonLine_91 rfl (?_)))))
  rw [show (9 : Int32) = nI 9 from rfl, nI_add]
  refine J_putI (pq := 95) dX2_isColonLine_92 rfl f_X2_105 (Or.inl rfl) (by first | exact hc0 | exact hd0 | exact hK.at rfl) (J_aload_n (pq := 96) dX2_isColonLine_95 rfl rfl (J_iload_n (pq := 97) dX2_isColonLine_96 rfl rfl (J_putI (pq := 100) dX2_isColonLine_97 rfl f_X2_99 (Or.inl rfl) (by first | exact hc0 | exact hd0 | exact hK.at rfl) (?_))))
  refine J_cut (σ := Unit) 114 (fun _ => [some (.ref 5), some (.int (nI a)), some (.int (nI e)), some (.int (nI (pv (gi h 2) (a + 1)))), some (.int (nI (pv (gi h 2) (a + 7))))]) (fun _ => []) (fun _ => si (si (si (si h 5 6 (nI (pv (gi h 2) (a + 3) * 256 + pv (gi h 2) (a + 5)))) 5 7 (nI (a + 9))) 5 8 (nI (pv (gi h 2) (a + 1)))) 5 5 (nI (if pv (gi h 2) (a + 7) = 0 then 0 else 2))) (fun _ => True) (fun _ _ => ?_) (fun k114 => ?_)
  · have hLn : LnX h (si (si (si (si h 5 6 (nI (pv (gi h 2) (a + 3) * 256 + pv (gi h 2) (a + 5)))) 5 7 (nI (a + 9))) 5 8 (nI (pv (gi h 2) (a + 1)))) 5 5 (nI (if pv (gi h 2) (a + 7) = 0 then 0 else 2))) := LnX.si h 5 _ (by omega) (LnX.si h 8 _ (by omega) (LnX.si h 7 _ (by omega) (LnX.si h 6 _ (by omega) hrf)))
    have hyes : ok1 (gi h 2) a e = true → (some (Value.int 1) = some (.int (bi (ok1 (gi h 2) a e))) ∧ LnX h (si (si (si (si h 5 6 (nI (pv (gi h 2) (a + 3) * 256 + pv (gi h 2) (a + 5)))) 5 7 (nI (a + 9))) 5 8 (nI (pv (gi h 2) (a + 1)))) 5 5 (nI (if pv (gi h 2) (a + 7) = 0 then 0 else 2))) ∧ (ok1 (gi h 2) a e = true → gi (si (si (si (si h 5 6 (nI (pv (gi h 2) (a + 3) * 256 + pv (gi h 2) (a + 5)))) 5 7 (nI (a + 9))) 5 8 (nI (pv (gi h 2) (a + 1)))) 5 5 (nI (if pv (gi h 2) (a + 7) = 0 then 0 else 2))) 5 5 = nI (if pv (gi h 2) (a + 7) = 0 then 0 else 2) ∧ gi (si (si (si (si h 5 6 (nI (pv (gi h 2) (a + 3) * 256 + pv (gi h 2) (a + 5)))) 5 7 (nI (a + 9))) 5 8 (nI (pv (gi h 2) (a + 1)))) 5 5 (nI (if pv (gi h 2) (a + 7) = 0 then 0 else 2))) 5 6 = nI (256 * pv (gi h 2) (a + 3) + pv (gi h 2) (a + 5)) ∧ gi (si (si (si (si h 5 6 (nI (pv (gi h 2) (a + 3) * 256 + pv (gi h 2) (a + 5)))) 5 7 (nI (a + 9))) 5 8 (nI (pv (gi h 2) (a + 1)))) 5 5 (nI (if pv (gi h 2) (a + 7) = 0 then 0 else 2))) 5 7 = nI (a + 9) ∧ gi (si (si (si (si h 5 6 (nI (pv (gi h 2) (a + 3) * 256 + pv (gi h 2) (a + 5)))) 5 7 (nI (a + 9))) 5 8 (nI (pv (gi h 2) (a + 1)))) 5 5 (nI (if pv (gi h 2) (a + 7) = 0 then 0 else 2))) 5 8 = nI (pv (gi h 2) (a + 1)))) := fun q => by
      rw [q]
      refine ⟨rfl, hLn, fun _ => ⟨by simp [gi_si], ?_, by simp [gi_si], by simp [gi_si]⟩⟩
      rw [Nat.mul_comm 256]
      simp [gi_si]
    refine J_iload_n (pq := 115) dX2_isColonLine_114 rfl rfl (J_iload_n (pq := 116) dX2_isColonLine_115 rfl rfl (J_isub (pq := 117) dX2_isColonLine_116 rfl (J_bipush (pq := 119) dX2_isColonLine_117 rfl c_bipush_11 (J_iconst (pq := 120) dX2_isColonLine_119 rfl c_iconst_2 (J_iload_n (pq := 121) dX2_isColonLine_120 rfl rfl (J_imul (pq := 122) dX2_isColonLine_121 rfl (J_iadd (pq := 123) dX2_isColonLine_122 rfl (?_))))))))
    rw [pk_sub (by omega), show (2 : Int32) = nI 2 from rfl, pk_mul, show (11 : Int32) = nI 11 from rfl, nI_add]
    refine J_icmp_ne (pq := 126) (tgt := 145) dX2_isColonLine_123 rfl rfl (fun c => ?_) (fun c => ?_)
    · rw [nI_eq (by omega) (by omega)] at c
      refine J_iconst (pq := 146) dX2_isColonLine_145 rfl c_iconst_0 (J_iret dX2_isColonLine_146 rfl (by first | rfl | exact bi_nar _) ?_)
      exact hno _ hLn (Bool.eq_false_iff.mpr (fun q => c (hiff.mp q).2.2.2.1))
    rw [nI_eq (by omega) (by omega)] at c
    have cln := c
    refine J_iload (pq := 128) dX2_isColonLine_126 rfl rfl (J_if_eq (pq := 131) (tgt := 141) dX2_isColonLine_128 rfl rfl (fun c => ?_) (fun c => ?_))
    · rw [show (0 : Int32) = nI 0 from rfl, nI_eq (by omega) (by omega)] at c
      refine J_iconst (pq := 142) dX2_isColonLine_141 rfl c_iconst_1 (J_goto (tgt := 146) dX2_isColonLine_142 rfl (J_iret dX2_isColonLine_146 rfl (by first | rfl | exact bi_nar _) ?_))
      exact hyes (hiff.mpr ⟨c58, by omega, cal, cln, Or.inl c⟩)
    rw [show (0 : Int32) = nI 0 from rfl, nI_eq (by omega) (by omega)] at c
    have c70 := c
    refine J_iload (pq := 133) dX2_isColonLine_131 rfl rfl (J_iconst (pq := 134) dX2_isColonLine_133 rfl c_iconst_1 (J_icmp_ne (pq := 137) (tgt := 145) dX2_isColonLine_134 rfl rfl (fun c => ?_) (fun c => ?_)))
    · rw [show (1 : Int32) = nI 1 from rfl, nI_eq (by omega) (by omega)] at c
      refine J_iconst (pq := 146) dX2_isColonLine_145 rfl c_iconst_0 (J_iret dX2_isColonLine_146 rfl (by first | rfl | exact bi_nar _) ?_)
      exact hno _ hLn (Bool.eq_false_iff.mpr (fun q => by have := (hiff.mp q).2.2.2.2; omega))
    rw [show (1 : Int32) = nI 1 from rfl, nI_eq (by omega) (by omega)] at c
    have c71 := c
    refine J_iload_n (pq := 138) dX2_isColonLine_137 rfl rfl (J_if_ne (pq := 141) (tgt := 145) dX2_isColonLine_138 rfl rfl (fun c => ?_) (fun c => ?_))
    · rw [show (0 : Int32) = nI 0 from rfl, nI_eq (by omega) (by omega)] at c
      refine J_iconst (pq := 146) dX2_isColonLine_145 rfl c_iconst_0 (J_iret dX2_isColonLine_146 rfl (by first | rfl | exact bi_nar _) ?_)
      exact hno _ hLn (Bool.eq_false_iff.mpr (fun q => by have := (hiff.mp q).2.2.2.2; omega))
    rw [show (0 : Int32) = nI 0 from rfl, nI_eq (by omega) (by omega)] at c
    refine J_iconst (pq := 142) dX2_isColonLine_141 rfl c_iconst_1 (J_goto (tgt := 146) dX2_isColonLine_142 rfl (J_iret dX2_isColonLine_146 rfl (by first | rfl | exact bi_nar _) ?_))
    exact hyes (hiff.mpr ⟨c58, by omega, cal, cln, Or.inr ⟨c71, c⟩⟩)
  · refine J_aload_n (pq := 101) dX2_isColonLine_100 rfl rfl (J_iload (pq := 103) dX2_isColonLine_101 rfl rfl (J_if_ne (pq := 106) (tgt := 110) dX2_isColonLine_103 rfl rfl (fun c => ?_) (fun c => ?_)))
    · rw [show (0 : Int32) = nI 0 from rfl, nI_eq (by omega) (by omega)] at c
      refine J_iconst (pq := 111) dX2_isColonLine_110 rfl c_iconst_2 (J_putI (pq := 114) dX2_isColonLine_111 rfl f_X2_93 (Or.inl rfl) (by first | exact hc0 | exact hd0 | exact hK.at rfl) (?_))
      refine J_eq rfl rfl ?_ (k114 () trivial)
      rw [if_neg c]; rfl
    · rw [show (0 : Int32) = nI 0 from rfl, nI_eq (by omega) (by omega)] at c
      refine J_iconst (pq := 107) dX2_isColonLine_106 rfl c_iconst_0 (J_goto (tgt := 111) dX2_isColonLine_107 rfl (J_putI (pq := 114) dX2_isColonLine_111 rfl f_X2_93 (Or.inl rfl) (by first | exact hc0 | exact hd0 | exact hK.at rfl) (?_)))
      refine J_eq rfl rfl ?_ (k114 () trivial)
      rw [if_pos c]; rfl
end G1
