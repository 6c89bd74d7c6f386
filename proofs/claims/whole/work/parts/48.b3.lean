-- the class: the most pulses and the most steps worked
def pM (pl : Bool) (c : Cond) : Nat := if pl then pP c else pW c
theorem pM_N (pl : Bool) : pM pl pN = 0 := by cases pl <;> rfl
theorem pM_L (pl : Bool) (k n : Nat) (r : Cond) : pM pl (pL k n r) = (if pl then (if k = 1 then n else 0) else 1) + pM pl r := by cases pl <;> rfl
theorem pM_T (pl : Bool) (n : Nat) (b r : Cond) : pM pl (pT n b r) = (if pl then 0 else 1) + n * pM pl b + pM pl r := by
  cases pl
  · rfl
  · show n * pP b + pP r = 0 + n * pP b + pP r; omega
theorem pM_O (pl : Bool) (a b r : Cond) : pM pl (pO a b r) = (if pl then 0 else 1) + max (pM pl a) (pM pl b) + pM pl r := by
  cases pl
  · rfl
  · show max (pP a) (pP b) + pP r = 0 + max (pP a) (pP b) + pP r; omega
theorem pM_le (pl : Bool) : ∀ c, PG c → ∀ dd, POK c dd → pM pl c ≤ psz c * 50 ^ (dd + 1) :=
  P_ind (fun dd _ => by rw [pM_N]; omega)
    (fun k n r hr ih dd hO => by
      obtain ⟨h1, h2⟩ : ((k = 0 ∧ n ≤ 30) ∨ (k = 1 ∧ 1 ≤ n ∧ n ≤ 50) ∨ (k = 2 ∧ n = 0)) ∧ POK r dd := hO
      have := ih dd h2
      rw [pM_L, show psz (pL k n r) = 1 + psz r from rfl, Nat.add_mul, Nat.one_mul]
      have hp : 50 ≤ 50 ^ (dd + 1) := by
        rw [Nat.pow_succ]
        have : 0 < 50 ^ dd := Nat.pow_pos (show 0 < 50 by omega)
        omega
      have hu : (if pl then (if k = 1 then n else 0) else 1) ≤ 50 := by
        split
        · split <;> omega
        · omega
      omega)
    (fun n b r hb hr ihb ihr dd hO => by
      obtain ⟨h1, h2, h3, h4⟩ : (1 ≤ n ∧ n ≤ 50) ∧ 0 < dd ∧ POK b (dd - 1) ∧ POK r dd := hO
      have q1 := ihb _ h3
      have q2 := ihr _ h4
      rw [show dd - 1 + 1 = dd by omega] at q1
      rw [pM_T, show psz (pT n b r) = 1 + psz b + psz r from rfl, Nat.add_mul, Nat.add_mul, Nat.one_mul]
      have hp : 1 ≤ 50 ^ (dd + 1) := Nat.pow_pos (show 0 < 50 by omega)
      have hm : n * pM pl b ≤ psz b * 50 ^ (dd + 1) := by
        rw [Nat.pow_succ, ← Nat.mul_assoc, Nat.mul_comm n]
        exact Nat.mul_le_mul q1 h1.2
      have hu : (if pl then 0 else 1) ≤ 1 := by split <;> omega
      omega)
    (fun a b r ha hb hr iha ihb ihr dd hO => by
      obtain ⟨h1, h2, h3, h4⟩ : 0 < dd ∧ POK a (dd - 1) ∧ POK b (dd - 1) ∧ POK r dd := hO
      have q1 := iha _ h2
      have q2 := ihb _ h3
      have q3 := ihr _ h4
      rw [show dd - 1 + 1 = dd by omega] at q1 q2
      rw [pM_O, show psz (pO a b r) = 1 + psz a + psz b + psz r from rfl, Nat.add_mul, Nat.add_mul, Nat.add_mul, Nat.one_mul]
      have hp : 1 ≤ 50 ^ (dd + 1) := Nat.pow_pos (show 0 < 50 by omega)
      have hpp : 50 ^ dd ≤ 50 ^ (dd + 1) := Nat.pow_le_pow_right (by omega) (by omega)
      have z1 : psz a * 50 ^ dd ≤ psz a * 50 ^ (dd + 1) := Nat.mul_le_mul_left _ hpp
      have z2 : psz b * 50 ^ dd ≤ psz b * 50 ^ (dd + 1) := Nat.mul_le_mul_left _ hpp
      have hu : (if pl then 0 else 1) ≤ 1 := by split <;> omega
      omega)
theorem pM_big {pl : Bool} {c : Cond} (hc : PG c) {dd : Nat} (hO : POK c dd) (hd : dd ≤ 5) (hz : psz c ≤ 40) : pM pl c < 1000000000000 := by
  have h1 := pM_le pl c hc dd hO
  have h2 : 50 ^ (dd + 1) ≤ 50 ^ 6 := Nat.pow_le_pow_right (by omega) (by omega)
  have h3 : psz c * 50 ^ (dd + 1) ≤ 40 * 50 ^ 6 := Nat.mul_le_mul hz h2
  have h4 : 40 * 50 ^ 6 = 625000000000 := by decide
  omega
section B3
variable {x : JX} {h : JH} {d e : Nat} {pl : Bool}
theorem j_maxL {m n : Nat} (hm : m < 2 ^ 63) (hn : n < 2 ^ 63) : JF x yJ9_max_f86c9 cJ9_max_f86c9 4 (some .long) 0 0 0 [.long (lN m), .long (lN n)] h (some (.long (lN (max m n)))) h := by
  have e : (if lg_cmp (lN m) (lN n) < 0 then lN n else lN m) = lN (max m n) := by
    by_cases q : lg_cmp (lN m) (lN n) < 0
    · rw [if_pos q]; rw [lg_cmp_lt, pk_lLT hm hn] at q; rw [show max m n = n by omega]
    · rw [if_neg q]; rw [lg_cmp_lt, pk_lLT hm hn] at q; rw [show max m n = m by omega]
  rw [← e]; exact j_J9_max_f86c9
theorem j_minL {m n : Nat} (hm : m < 2 ^ 63) (hn : n < 2 ^ 63) : JF x yJ9_min_f86c9 cJ9_min_f86c9 4 (some .long) 0 0 0 [.long (lN m), .long (lN n)] h (some (.long (lN (min m n)))) h := by
  have e : (if 0 < lg_cmp (lN m) (lN n) then lN n else lN m) = lN (min m n) := by
    by_cases q : 0 < lg_cmp (lN m) (lN n)
    · rw [if_pos q]; rw [lg_cmp_gt, pk_lLT hn hm] at q; rw [show min m n = n by omega]
    · rw [if_neg q]; rw [lg_cmp_gt, pk_lLT hn hm] at q; rw [show min m n = m by omega]
  rw [← e]; exact j_J9_min_f86c9
def mlC (x : JX) (h : JH) (d e : Nat) (pl : Bool) (tc : Cond) : Prop := ∀ dd i j, POK tc dd → DS (gi h) d tc i j → j ≤ e → ∀ T dp S D Q, j ≤ T → T ≤ e → dp + dd ≤ 5 → dd + 2 ≤ D →
  J x yX4_most cX4_most 11 (some .long) D 0 0 Q 14 [some (.ref d), some (.int (bi pl)), none, some (.int (nI T)), some (.int (nI dp)), some (.long (lN (S + pM pl tc))), none, some (.int (nI j)), none, none, none] [] h →
  J x yX4_most cX4_most 11 (some .long) D 0 0 Q 14 [some (.ref d), some (.int (bi pl)), none, some (.int (nI T)), some (.int (nI dp)), some (.long (lN S)), none, some (.int (nI i)), none, none, none] [] h
theorem ml_fn {tc : Cond} (hV : mlC x h d e pl tc) (hC : RKc h d e) {dd i j dp D : Nat} (hO : POK tc dd) (hS : DS (gi h) d tc i j) (hj : j ≤ e) (hdp : dp + dd ≤ 5) (hD : dd + 2 ≤ D) : JF x yX4_most cX4_most 11 (some .long) D 0 0 [.ref d, .int (bi pl), .int (nI i), .int (nI j), .int (nI dp)] h (some (.long (lN (pM pl tc)))) h := by
  have he := hC.2.2
  refine JM_of [some (.ref d), some (.int (bi pl)), some (.int (nI i)), some (.int (nI j)), some (.int (nI dp)), none, none, none, none, none, none] (by decide) (Nat.le_of_ble_eq_true rfl) rfl ?_
  refine J_iload (pq := 2) dX4_most_0 rfl rfl (J_iconst (pq := 3) dX4_most_2 rfl c_iconst_5 (J_icmp_le (pq := 6) (tgt := 8) dX4_most_3 rfl rfl (fun c => ?_) (fun c => ?_)))
  · refine J_lconst (v := 0) (pq := 9) dX4_most_8 rfl rfl (J_lstore (pq := 11) dX4_most_9 rfl (Nat.le_of_ble_eq_true rfl) (Nat.le_of_ble_eq_true rfl) rfl (J_iload_n (pq := 12) dX4_most_11 rfl rfl (J_istore (pq := 14) dX4_most_12 rfl (Nat.le_of_ble_eq_true rfl) (Nat.le_of_ble_eq_true rfl) rfl (?_))))
    refine J_weak (ls' := [some (.ref d), some (.int (bi pl)), none, some (.int (nI j)), some (.int (nI dp)), some (.long (lN 0)), none, some (.int (nI i)), none, none, none]) (by simp [lsub]; rfl) rfl rfl (hV dd i j hO hS hj j dp 0 D _ (Nat.le_refl _) hj hdp hD ?_)
    refine J_iload (pq := 16) dX4_most_14 rfl rfl (J_iload_n (pq := 17) dX4_most_16 rfl rfl (J_icmp_ge (pq := 20) (tgt := 175) dX4_most_17 rfl rfl (fun c => ?_) (fun c => ?_)))
    · refine J_lload (pq := 177) dX4_most_175 rfl rfl (J_lret dX4_most_177 rfl ?_)
      exact ⟨by rw [Nat.zero_add], rfl⟩
    · exact absurd (Int32.le_refl _) c
  · rw [show (5 : Int32) = nI 5 from rfl, nI_leI (by omega) (by omega)] at c; omega
theorem ml_157 {T dp S i m D : Nat} {Q : Option Value → JH → Prop} {k1 k2 k3 : Option Value} (hC : RKc h d e) (hi : i < e) (hb : gi h (d + 4) i = nI m) (hm : i < m) (hme : m ≤ e) (hD : 2 ≤ D) (k : J x yX4_most cX4_most 11 (some .long) D 0 0 Q 14 [some (.ref d), some (.int (bi pl)), none, some (.int (nI T)), some (.int (nI dp)), some (.long (lN S)), none, some (.int (nI m)), none, none, none] [] h) : J x yX4_most cX4_most 11 (some .long) D 0 0 Q 157 [some (.ref d), some (.int (bi pl)), none, some (.int (nI T)), some (.int (nI dp)), some (.long (lN S)), none, some (.int (nI i)), k1, k2, k3] [] h := by
  have hC0 := hC
  obtain ⟨⟨⟨hd0, hd1, hd2, hd3, hd4⟩, hq0, hq1, hq2, hq3⟩, h4, he⟩ := hC
  refine J_iload (pq := 159) dX4_most_157 rfl rfl (J_iconst (pq := 160) dX4_most_159 rfl c_iconst_1 (J_iadd (pq := 161) dX4_most_160 rfl (J_aload_n (pq := 162) dX4_most_161 rfl rfl (J_iload (pq := 164) dX4_most_162 rfl rfl (J_virtF (pq := 167) dX4_most_164 rfl (j_beh hC0 hi) rfl tg_X4_behindOf l_X4_82 vi_X4_behindOf (by first | exact hd0 | exact hd1 | exact hd2 | exact hd3 | exact hd4) ⟨by decide, rfl⟩ (by omega) (Nat.zero_le _) (Nat.zero_le _) (Nat.le_of_ble_eq_true rfl) (?_))))))
  rw [hb, nI_1]
  refine J_statF (pq := 170) dX4_most_167 rfl (j_max (by omega) (by omega)) rfl tg_J9_max_7cf53 l_X4_75 st_J9_max_7cf53 (by omega) (Nat.zero_le _) (Nat.zero_le _) (Nat.le_of_ble_eq_true rfl) (J_istore (pq := 172) dX4_most_170 rfl (Nat.le_of_ble_eq_true rfl) (Nat.le_of_ble_eq_true rfl) rfl (J_goto (tgt := 14) dX4_most_172 rfl (?_)))
  rw [show max (i + 1) m = m by omega]
  exact J_weak (by simp [lsub]) rfl rfl k
theorem ml_28 {T dp S i n k D : Nat} {Q : Option Value → JH → Prop} (hC : RKc h d e) (hi : i < e) (hn : k = 1 → gi h (d + 2) i = nI n ∧ n ≤ 50) (hk5 : k < 5) (hD : 2 ≤ D)
    (kk : J x yX4_most cX4_most 11 (some .long) D 0 0 Q 58 [some (.ref d), some (.int (bi pl)), none, some (.int (nI T)), some (.int (nI dp)), some (.long (lN (S + (if pl then (if k = 1 then n else 0) else 1)))), none, some (.int (nI i)), some (.int (nI k)), none, none] [] h) :
    J x yX4_most cX4_most 11 (some .long) D 0 0 Q 28 [some (.ref d), some (.int (bi pl)), none, some (.int (nI T)), some (.int (nI dp)), some (.long (lN S)), none, some (.int (nI i)), some (.int (nI k)), none, none] [] h := by
  have hC0 := hC
  obtain ⟨⟨⟨hd0, hd1, hd2, hd3, hd4⟩, hq0, hq1, hq2, hq3⟩, h4, he⟩ := hC
  refine J_lload (pq := 30) dX4_most_28 rfl rfl (J_iload_n (pq := 31) dX4_most_30 rfl rfl (J_if_eq (pq := 34) (tgt := 54) dX4_most_31 rfl rfl (fun c => ?_) (fun c => ?_)))
  · rw [bi_0] at c
    subst c
    refine J_lconst (v := 1) (pq := 55) dX4_most_54 rfl rfl (J_ladd (pq := 56) dX4_most_55 rfl (J_lstore (pq := 58) dX4_most_56 rfl (Nat.le_of_ble_eq_true rfl) (Nat.le_of_ble_eq_true rfl) rfl (?_)))
    rw [show (1 : Int64) = lN 1 from rfl, lN_add]
    exact kk
  · rw [bi_0, Bool.not_eq_false] at c
    subst c
    refine J_iload (pq := 36) dX4_most_34 rfl rfl (J_iconst (pq := 37) dX4_most_36 rfl c_iconst_1 (J_icmp_ne (pq := 40) (tgt := 49) dX4_most_37 rfl rfl (fun c => ?_) (fun c => ?_)))
    · rw [show (1 : Int32) = nI 1 from rfl, nI_eq (by omega) (by omega)] at c
      refine J_iconst (pq := 50) dX4_most_49 rfl c_iconst_0 (J_i2l (pq := 51) dX4_most_50 rfl (J_goto (tgt := 55) dX4_most_51 rfl (J_ladd (pq := 56) dX4_most_55 rfl (J_lstore (pq := 58) dX4_most_56 rfl (Nat.le_of_ble_eq_true rfl) (Nat.le_of_ble_eq_true rfl) rfl (?_)))))
      rw [show ((0 : Int32).toInt64) = lN 0 from rfl, lN_add]
      rw [if_pos rfl, if_neg c] at kk
      exact kk
    · rw [show (1 : Int32) = nI 1 from rfl, nI_eq (by omega) (by omega)] at c
      refine J_aload_n (pq := 41) dX4_most_40 rfl rfl (J_iload (pq := 43) dX4_most_41 rfl rfl (J_virtF (pq := 46) dX4_most_43 rfl (j_num hC0 hi) rfl tg_X4_numberOf l_X4_72 vi_X4_numberOf (by first | exact hd0 | exact hd1 | exact hd2 | exact hd3 | exact hd4) ⟨by decide, rfl⟩ (by omega) (Nat.zero_le _) (Nat.zero_le _) (Nat.le_of_ble_eq_true rfl) (?_)))
      rw [(hn c).1]
      refine J_goto (tgt := 50) dX4_most_46 rfl (J_i2l (pq := 51) dX4_most_50 rfl (J_goto (tgt := 55) dX4_most_51 rfl (J_ladd (pq := 56) dX4_most_55 rfl (J_lstore (pq := 58) dX4_most_56 rfl (Nat.le_of_ble_eq_true rfl) (Nat.le_of_ble_eq_true rfl) rfl (?_)))))
      have hn50 := (hn c).2
      rw [nI_l (by omega), lN_add]
      rw [if_pos rfl, if_pos c] at kk
      exact kk
set_option maxHeartbeats 1000000 in
theorem ml_all (hC : RKc h d e) : ∀ tc, PG tc → mlC x h d e pl tc :=
  P_ind (fun dd i j _ hS _ T dp S D Q _ _ _ _ k => by
      have hS : i = j := hS
      subst hS
      rw [pM_N, Nat.add_zero] at k
      exact k)
    (fun k n r hr ih dd i j hO hS hj T dp S D Q hT hTe hdp hD kk => by
      obtain ⟨h1, h2⟩ : ((k = 0 ∧ n ≤ 30) ∨ (k = 1 ∧ 1 ≤ n ∧ n ≤ 50) ∨ (k = 2 ∧ n = 0)) ∧ POK r dd := hO
      have hS : gi h (d + 1) i = nI k ∧ gi h (d + 2) i = nI n ∧ gi h (d + 4) i = nI (i + 1) ∧ DS (gi h) d r (i + 1) j := hS
      obtain ⟨s1, s2, s3, s4⟩ := hS
      have hle := DS_le r hr _ _ s4
      have hC0 := hC
      obtain ⟨⟨⟨hd0, hd1, hd2, hd3, hd4⟩, hq0, hq1, hq2, hq3⟩, h4, he⟩ := hC
      rw [pM_L, ← Nat.add_assoc] at kk
      refine J_iload (pq := 16) dX4_most_14 rfl rfl (J_iload_n (pq := 17) dX4_most_16 rfl rfl (J_icmp_ge (pq := 20) (tgt := 175) dX4_most_17 rfl rfl (fun c => ?_) (fun c => ?_)))
      · rw [nI_leI (by omega) (by omega)] at c; omega
      · refine J_aload_n (pq := 21) dX4_most_20 rfl rfl (J_iload (pq := 23) dX4_most_21 rfl rfl (J_virtF (pq := 26) dX4_most_23 rfl (j_kind hC0 (by omega)) rfl tg_X4_kindOf l_X4_68 vi_X4_kindOf (by first | exact hd0 | exact hd1 | exact hd2 | exact hd3 | exact hd4) ⟨by decide, rfl⟩ (by omega) (Nat.zero_le _) (Nat.zero_le _) (Nat.le_of_ble_eq_true rfl) (?_)))
        rw [s1]
        refine J_istore (pq := 28) dX4_most_26 rfl (Nat.le_of_ble_eq_true rfl) (Nat.le_of_ble_eq_true rfl) rfl (?_)
        refine ml_28 hC0 (by omega) (fun _ => ⟨s2, by omega⟩) (by omega) (by omega) ?_
        refine J_iload (pq := 60) dX4_most_58 rfl rfl (J_iconst (pq := 61) dX4_most_60 rfl c_iconst_3 (J_icmp_ne (pq := 64) (tgt := 99) dX4_most_61 rfl rfl (fun c => ?_) (fun c => ?_)))
        · refine J_iload (pq := 101) dX4_most_99 rfl rfl (J_iconst (pq := 102) dX4_most_101 rfl c_iconst_4 (J_icmp_ne (pq := 105) (tgt := 157) dX4_most_102 rfl rfl (fun c => ?_) (fun c => ?_)))
          · exact ml_157 (m := i + 1) hC0 (by omega) s3 (by omega) (by omega) (by omega) (ih dd (i + 1) j h2 s4 hj T dp _ D Q hT hTe hdp hD kk)
          · rw [show (4 : Int32) = nI 4 from rfl, nI_eq (by omega) (by omega)] at c; omega
        · rw [show (3 : Int32) = nI 3 from rfl, nI_eq (by omega) (by omega)] at c; omega)
    (fun n b r hb hr ihb ihr dd i j hO hS hj T dp S D Q hT hTe hdp hD kk => by
      obtain ⟨h1, h2, h3, h4'⟩ : (1 ≤ n ∧ n ≤ 50) ∧ 0 < dd ∧ POK b (dd - 1) ∧ POK r dd := hO
      have hS : ∃ m, gi h (d + 1) i = nI 3 ∧ gi h (d + 2) i = nI n ∧ gi h (d + 4) i = nI m ∧ DS (gi h) d b (i + 1) m ∧ DS (gi h) d r m j := hS
      obtain ⟨m, s1, s2, s3, s4, s5⟩ := hS
      have l1 := DS_le b hb _ _ s4
      have l2 := DS_le r hr _ _ s5
      have hC0 := hC
      obtain ⟨⟨⟨hd0, hd1, hd2, hd3, hd4⟩, hq0, hq1, hq2, hq3⟩, h4, he⟩ := hC
      rw [pM_T, ← Nat.add_assoc, ← Nat.add_assoc] at kk
      refine J_iload (pq := 16) dX4_most_14 rfl rfl (J_iload_n (pq := 17) dX4_most_16 rfl rfl (J_icmp_ge (pq := 20) (tgt := 175) dX4_most_17 rfl rfl (fun c => ?_) (fun c => ?_)))
      · rw [nI_leI (by omega) (by omega)] at c; omega
      · refine J_aload_n (pq := 21) dX4_most_20 rfl rfl (J_iload (pq := 23) dX4_most_21 rfl rfl (J_virtF (pq := 26) dX4_most_23 rfl (j_kind hC0 (by omega)) rfl tg_X4_kindOf l_X4_68 vi_X4_kindOf (by first | exact hd0 | exact hd1 | exact hd2 | exact hd3 | exact hd4) ⟨by decide, rfl⟩ (by omega) (Nat.zero_le _) (Nat.zero_le _) (Nat.le_of_ble_eq_true rfl) (?_)))
        rw [s1]
        refine J_istore (pq := 28) dX4_most_26 rfl (Nat.le_of_ble_eq_true rfl) (Nat.le_of_ble_eq_true rfl) rfl (?_)
        refine ml_28 hC0 (by omega) (fun _ => ⟨s2, by omega⟩) (by omega) (by omega) ?_
        refine J_iload (pq := 60) dX4_most_58 rfl rfl (J_iconst (pq := 61) dX4_most_60 rfl c_iconst_3 (J_icmp_ne (pq := 64) (tgt := 99) dX4_most_61 rfl rfl (fun c => ?_) (fun c => ?_)))
        · exact absurd rfl c
        · rw [if_neg (show ¬ (3 : Nat) = 1 by omega)]
          refine J_lload (pq := 66) dX4_most_64 rfl rfl (J_aload_n (pq := 67) dX4_most_66 rfl rfl (J_iload (pq := 69) dX4_most_67 rfl rfl (J_virtF (pq := 72) dX4_most_69 rfl (j_num hC0 (by omega)) rfl tg_X4_numberOf l_X4_72 vi_X4_numberOf (by first | exact hd0 | exact hd1 | exact hd2 | exact hd3 | exact hd4) ⟨by decide, rfl⟩ (by omega) (Nat.zero_le _) (Nat.zero_le _) (Nat.le_of_ble_eq_true rfl) (?_))))
          rw [s2]
          refine J_i2l (pq := 73) dX4_most_72 rfl (J_aload_n (pq := 74) dX4_most_73 rfl rfl (J_iload_n (pq := 75) dX4_most_74 rfl rfl (J_iload (pq := 77) dX4_most_75 rfl rfl (J_iconst (pq := 78) dX4_most_77 rfl c_iconst_1 (J_iadd (pq := 79) dX4_most_78 rfl (J_aload_n (pq := 80) dX4_most_79 rfl rfl (J_iload (pq := 82) dX4_most_80 rfl rfl (J_virtF (pq := 85) dX4_most_82 rfl (j_beh hC0 (by omega)) rfl tg_X4_behindOf l_X4_82 vi_X4_behindOf (by first | exact hd0 | exact hd1 | exact hd2 | exact hd3 | exact hd4) ⟨by decide, rfl⟩ (by omega) (Nat.zero_le _) (Nat.zero_le _) (Nat.le_of_ble_eq_true rfl) (?_)))))))))
          rw [s3, nI_1]
          refine J_iload (pq := 87) dX4_most_85 rfl rfl (J_iconst (pq := 88) dX4_most_87 rfl c_iconst_1 (J_iadd (pq := 89) dX4_most_88 rfl (?_)))
          rw [nI_1]
          refine J_virtF (pq := 92) dX4_most_89 rfl (ml_fn (D := D - 1) ihb hC0 h3 s4 (by omega) (show dp + 1 + (dd - 1) ≤ 5 by omega) (by omega)) rfl tg_X4_most l_X4_45 vi_X4_most (by first | exact hd0 | exact hd1 | exact hd2 | exact hd3 | exact hd4) ⟨by decide, rfl⟩ (by omega) (Nat.zero_le _) (Nat.zero_le _) (Nat.le_of_ble_eq_true rfl) (?_)
          refine J_lmul (pq := 93) dX4_most_92 rfl (J_ladd (pq := 94) dX4_most_93 rfl (J_lstore (pq := 96) dX4_most_94 rfl (Nat.le_of_ble_eq_true rfl) (Nat.le_of_ble_eq_true rfl) rfl (J_goto (tgt := 157) dX4_most_96 rfl (?_))))
          rw [nI_l (by omega), lN_mul, lN_add]
          exact ml_157 (m := m) hC0 (by omega) s3 (by omega) (by omega) (by omega) (ihr dd m j h4' s5 hj T dp _ D Q hT hTe hdp hD kk))
    (fun a b r ha hb hr iha ihb ihr dd i j hO hS hj T dp S D Q hT hTe hdp hD kk => by
      obtain ⟨h1, h2, h3, h4'⟩ : 0 < dd ∧ POK a (dd - 1) ∧ POK b (dd - 1) ∧ POK r dd := hO
      have hS : ∃ m1 m2, gi h (d + 1) i = nI 4 ∧ gi h (d + 3) i = nI m1 ∧ gi h (d + 4) i = nI m2 ∧ DS (gi h) d a (i + 1) m1 ∧ DS (gi h) d b m1 m2 ∧ DS (gi h) d r m2 j := hS
      obtain ⟨m1, m2, s1, s2, s3, s4, s5, s6⟩ := hS
      have l1 := DS_le a ha _ _ s4
      have l2 := DS_le b hb _ _ s5
      have l3 := DS_le r hr _ _ s6
      have hC0 := hC
      obtain ⟨⟨⟨hd0, hd1, hd2, hd3, hd4⟩, hq0, hq1, hq2, hq3⟩, h4, he⟩ := hC
      have b1 := pM_big (pl := pl) ha h2 (by omega) (by omega)
      have b2 := pM_big (pl := pl) hb h3 (by omega) (by omega)
      rw [pM_O, ← Nat.add_assoc, ← Nat.add_assoc] at kk
      refine J_iload (pq := 16) dX4_most_14 rfl rfl (J_iload_n (pq := 17) dX4_most_16 rfl rfl (J_icmp_ge (pq := 20) (tgt := 175) dX4_most_17 rfl rfl (fun c => ?_) (fun c => ?_)))
      · rw [nI_leI (by omega) (by omega)] at c; omega
      · refine J_aload_n (pq := 21) dX4_most_20 rfl rfl (J_iload (pq := 23) dX4_most_21 rfl rfl (J_virtF (pq := 26) dX4_most_23 rfl (j_kind hC0 (by omega)) rfl tg_X4_kindOf l_X4_68 vi_X4_kindOf (by first | exact hd0 | exact hd1 | exact hd2 | exact hd3 | exact hd4) ⟨by decide, rfl⟩ (by omega) (Nat.zero_le _) (Nat.zero_le _) (Nat.le_of_ble_eq_true rfl) (?_)))
        rw [s1]
        refine J_istore (pq := 28) dX4_most_26 rfl (Nat.le_of_ble_eq_true rfl) (Nat.le_of_ble_eq_true rfl) rfl (?_)
        refine ml_28 (n := 0) hC0 (by omega) (fun q => by omega) (by omega) (by omega) ?_
        refine J_iload (pq := 60) dX4_most_58 rfl rfl (J_iconst (pq := 61) dX4_most_60 rfl c_iconst_3 (J_icmp_ne (pq := 64) (tgt := 99) dX4_most_61 rfl rfl (fun c => ?_) (fun c => ?_)))
        · rw [if_neg (show ¬ (4 : Nat) = 1 by omega)]
          refine J_iload (pq := 101) dX4_most_99 rfl rfl (J_iconst (pq := 102) dX4_most_101 rfl c_iconst_4 (J_icmp_ne (pq := 105) (tgt := 157) dX4_most_102 rfl rfl (fun c => ?_) (fun c => ?_)))
          · exact absurd rfl c
          · refine J_aload_n (pq := 106) dX4_most_105 rfl rfl (J_iload_n (pq := 107) dX4_most_106 rfl rfl (J_iload (pq := 109) dX4_most_107 rfl rfl (J_iconst (pq := 110) dX4_most_109 rfl c_iconst_1 (J_iadd (pq := 111) dX4_most_110 rfl (J_aload_n (pq := 112) dX4_most_111 rfl rfl (J_iload (pq := 114) dX4_most_112 rfl rfl (J_virtF (pq := 117) dX4_most_114 rfl (j_els hC0 (by omega)) rfl tg_X4_otherwiseOf l_X4_79 vi_X4_otherwiseOf (by first | exact hd0 | exact hd1 | exact hd2 | exact hd3 | exact hd4) ⟨by decide, rfl⟩ (by omega) (Nat.zero_le _) (Nat.zero_le _) (Nat.le_of_ble_eq_true rfl) (?_))))))))
            rw [s2, nI_1]
            refine J_iload (pq := 119) dX4_most_117 rfl rfl (J_iconst (pq := 120) dX4_most_119 rfl c_iconst_1 (J_iadd (pq := 121) dX4_most_120 rfl (?_)))
            rw [nI_1]
            refine J_virtF (pq := 124) dX4_most_121 rfl (ml_fn (D := D - 1) iha hC0 h2 s4 (by omega) (show dp + 1 + (dd - 1) ≤ 5 by omega) (by omega)) rfl tg_X4_most l_X4_45 vi_X4_most (by first | exact hd0 | exact hd1 | exact hd2 | exact hd3 | exact hd4) ⟨by decide, rfl⟩ (by omega) (Nat.zero_le _) (Nat.zero_le _) (Nat.le_of_ble_eq_true rfl) (J_lstore (pq := 126) dX4_most_124 rfl (Nat.le_of_ble_eq_true rfl) (Nat.le_of_ble_eq_true rfl) rfl (?_))
            refine J_lload (pq := 128) dX4_most_126 rfl rfl (J_lload (pq := 130) dX4_most_128 rfl rfl (J_aload_n (pq := 131) dX4_most_130 rfl rfl (J_iload_n (pq := 132) dX4_most_131 rfl rfl (J_aload_n (pq := 133) dX4_most_132 rfl rfl (J_iload (pq := 135) dX4_most_133 rfl rfl (J_virtF (pq := 138) dX4_most_135 rfl (j_els hC0 (by omega)) rfl tg_X4_otherwiseOf l_X4_79 vi_X4_otherwiseOf (by first | exact hd0 | exact hd1 | exact hd2 | exact hd3 | exact hd4) ⟨by decide, rfl⟩ (by omega) (Nat.zero_le _) (Nat.zero_le _) (Nat.le_of_ble_eq_true rfl) (?_)))))))
            rw [s2]
            refine J_aload_n (pq := 139) dX4_most_138 rfl rfl (J_iload (pq := 141) dX4_most_139 rfl rfl (J_virtF (pq := 144) dX4_most_141 rfl (j_beh hC0 (by omega)) rfl tg_X4_behindOf l_X4_82 vi_X4_behindOf (by first | exact hd0 | exact hd1 | exact hd2 | exact hd3 | exact hd4) ⟨by decide, rfl⟩ (by omega) (Nat.zero_le _) (Nat.zero_le _) (Nat.le_of_ble_eq_true rfl) (?_)))
            rw [s3]
            refine J_iload (pq := 146) dX4_most_144 rfl rfl (J_iconst (pq := 147) dX4_most_146 rfl c_iconst_1 (J_iadd (pq := 148) dX4_most_147 rfl (?_)))
            rw [nI_1]
            refine J_virtF (pq := 151) dX4_most_148 rfl (ml_fn (D := D - 1) ihb hC0 h3 s5 (by omega) (show dp + 1 + (dd - 1) ≤ 5 by omega) (by omega)) rfl tg_X4_most l_X4_45 vi_X4_most (by first | exact hd0 | exact hd1 | exact hd2 | exact hd3 | exact hd4) ⟨by decide, rfl⟩ (by omega) (Nat.zero_le _) (Nat.zero_le _) (Nat.le_of_ble_eq_true rfl) (?_)
            refine J_statF (pq := 154) dX4_most_151 rfl (j_maxL (by omega) (by omega)) rfl tg_J9_max_f86c9 l_X4_89 st_J9_max_f86c9 (by omega) (Nat.zero_le _) (Nat.zero_le _) (Nat.le_of_ble_eq_true rfl) (J_ladd (pq := 155) dX4_most_154 rfl (J_lstore (pq := 157) dX4_most_155 rfl (Nat.le_of_ble_eq_true rfl) (Nat.le_of_ble_eq_true rfl) rfl (?_)))
            rw [lN_add]
            exact ml_157 (m := m2) hC0 (by omega) s3 (by omega) (by omega) (by omega) (ihr dd m2 j h4' s6 hj T dp _ D Q hT hTe hdp hD kk)
        · exact absurd c (by decide))
end B3
