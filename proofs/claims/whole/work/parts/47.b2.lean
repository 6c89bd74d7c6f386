-- the class: the most volts of a recipe
theorem pmax {P v : Nat} (hP : P < 1000) (hv : v < 1000) : (if nI P - 1 < nI v then nI v else nI P - 1) = nI (max P (v + 1)) - 1 := by
  have h1 : (nI P - 1).toInt = (P : Int) - 1 := by
    rw [ti_sub] <;> rw [nI_toInt (by omega)] <;> simp <;> omega
  by_cases q : nI P - 1 < nI v
  · rw [if_pos q]
    rw [Int32.lt_iff_toInt_lt, h1, nI_toInt (by omega)] at q
    rw [show max P (v + 1) = v + 1 by omega, nI_pred]
  · rw [if_neg q]
    rw [Int32.lt_iff_toInt_lt, h1, nI_toInt (by omega)] at q
    rw [show max P (v + 1) = P by omega]
section B2
variable {x : JX} {h : JH} {d e : Nat}
def vlC (x : JX) (h : JH) (d e : Nat) (tc : Cond) : Prop := ∀ dd i j, POK tc dd → DS (gi h) d tc i j → j ≤ e → ∀ T dp v P D Q, j ≤ T → T ≤ e → dp + dd ≤ 5 → 2 * dd + 2 ≤ D → v ≤ 30 → P ≤ 31 →
  J x yX4_volts cX4_volts 9 (some .int) D 0 0 Q 14 [some (.ref d), none, some (.int (nI T)), none, some (.int (nI dp)), some (.int (nI (tv tc v))), some (.int (nI j)), none, none] [] (si h d 5 (nI (max P (tq tc v)) - 1)) →
  J x yX4_volts cX4_volts 9 (some .int) D 0 0 Q 14 [some (.ref d), none, some (.int (nI T)), none, some (.int (nI dp)), some (.int (nI v)), some (.int (nI i)), none, none] [] (si h d 5 (nI P - 1))
theorem RKc.s5 (hC : RKc h d e) (v : Int32) : RKc (si h d 5 v) d e := hC.of3 rfl (by rw [gi_si, if_neg (by omega)])
theorem vl_fn {tc : Cond} (hV : vlC x h d e tc) (hC : RKc h d e) {dd i j dp v P D : Nat} (hO : POK tc dd) (hS : DS (gi h) d tc i j) (hj : j ≤ e) (hdp : dp + dd ≤ 5) (hD : 2 * dd + 2 ≤ D) (hv : v ≤ 30) (hP : P ≤ 31) : JF x yX4_volts cX4_volts 9 (some .int) D 0 0 [.ref d, .int (nI i), .int (nI j), .int (nI v), .int (nI dp)] (si h d 5 (nI P - 1)) (some (.int (nI (tv tc v)))) (si h d 5 (nI (max P (tq tc v)) - 1)) := by
  have he := hC.2.2
  refine JM_of [some (.ref d), some (.int (nI i)), some (.int (nI j)), some (.int (nI v)), some (.int (nI dp)), none, none, none, none] (by decide) (Nat.le_of_ble_eq_true rfl) rfl ?_
  refine J_iload (pq := 2) dX4_volts_0 rfl rfl (J_iconst (pq := 3) dX4_volts_2 rfl c_iconst_5 (J_icmp_le (pq := 6) (tgt := 8) dX4_volts_3 rfl rfl (fun c => ?_) (fun c => ?_)))
  · refine J_iload_n (pq := 9) dX4_volts_8 rfl rfl (J_istore (pq := 11) dX4_volts_9 rfl (Nat.le_of_ble_eq_true rfl) (Nat.le_of_ble_eq_true rfl) rfl (J_iload_n (pq := 12) dX4_volts_11 rfl rfl (J_istore (pq := 14) dX4_volts_12 rfl (Nat.le_of_ble_eq_true rfl) (Nat.le_of_ble_eq_true rfl) rfl (?_))))
    refine J_weak (by simp [lsub]) rfl rfl (hV dd i j hO hS hj j dp v P D _ (Nat.le_refl _) hj hdp hD hv hP ?_)
    refine J_iload (pq := 16) dX4_volts_14 rfl rfl (J_iload_n (pq := 17) dX4_volts_16 rfl rfl (J_icmp_ge (pq := 20) (tgt := 162) dX4_volts_17 rfl rfl (fun c => ?_) (fun c => ?_)))
    · refine J_iload (pq := 164) dX4_volts_162 rfl rfl (J_iret dX4_volts_164 rfl rfl ?_)
      exact ⟨rfl, rfl⟩
    · exact absurd (Int32.le_refl _) c
  · rw [show (5 : Int32) = nI 5 from rfl, nI_leI (by omega) (by omega)] at c; omega
/-- on behind a step -/
theorem vl_144 {T dp v i m D : Nat} {Q : Option Value → JH → Prop} {k1 k2 : Option Value} {g : JH} (hC : RKc g d e) (hi : i < e) (hb : gi g (d + 4) i = nI m) (hm : i < m) (hme : m ≤ e) (hD : 2 ≤ D) (k : J x yX4_volts cX4_volts 9 (some .int) D 0 0 Q 14 [some (.ref d), none, some (.int (nI T)), none, some (.int (nI dp)), some (.int (nI v)), some (.int (nI m)), none, none] [] g) : J x yX4_volts cX4_volts 9 (some .int) D 0 0 Q 144 [some (.ref d), none, some (.int (nI T)), none, some (.int (nI dp)), some (.int (nI v)), some (.int (nI i)), k1, k2] [] g := by
  have hC0 := hC
  obtain ⟨⟨⟨hd0, hd1, hd2, hd3, hd4⟩, hq0, hq1, hq2, hq3⟩, h4, he⟩ := hC
  refine J_iload (pq := 146) dX4_volts_144 rfl rfl (J_iconst (pq := 147) dX4_volts_146 rfl c_iconst_1 (J_iadd (pq := 148) dX4_volts_147 rfl (J_aload_n (pq := 149) dX4_volts_148 rfl rfl (J_iload (pq := 151) dX4_volts_149 rfl rfl (J_virtF (pq := 154) dX4_volts_151 rfl (j_beh hC0 hi) rfl tg_X4_behindOf l_X4_82 vi_X4_behindOf (by first | exact hd0 | exact hd1 | exact hd2 | exact hd3 | exact hd4) ⟨by decide, rfl⟩ (by omega) (Nat.zero_le _) (Nat.zero_le _) (Nat.le_of_ble_eq_true rfl) (?_))))))
  rw [hb, nI_1]
  refine J_statF (pq := 157) dX4_volts_154 rfl (j_max (by omega) (by omega)) rfl tg_J9_max_7cf53 l_X4_75 st_J9_max_7cf53 (by omega) (Nat.zero_le _) (Nat.zero_le _) (Nat.le_of_ble_eq_true rfl) (J_istore (pq := 159) dX4_volts_157 rfl (Nat.le_of_ble_eq_true rfl) (Nat.le_of_ble_eq_true rfl) rfl (J_goto (tgt := 14) dX4_volts_159 rfl (?_)))
  rw [show max (i + 1) m = m by omega]
  exact J_weak (by simp [lsub]) rfl rfl k
theorem vt_step {b : Cond} (hV : vlC x h d e b) (hC : RKc h d e) {dd i m n w t P dp D : Nat} {Q : Option Value → JH → Prop} (hO : POK b dd) (hS : DS (gi h) d b (i + 1) m) (hm : m ≤ e) (hi : i < e) (hn : gi h (d + 2) i = nI n) (hn50 : n ≤ 50) (hb : gi h (d + 4) i = nI m) (hdp : dp + 1 + dd ≤ 5) (hD : 2 * dd + 3 ≤ D) (hw : w ≤ 30) (hP : P ≤ 31) (htn : t < n) (hT : tv b w ≤ 30)
    (k1 : max w (tv b w) = w → Q (some (.int (nI w))) (si h d 5 (nI (max P (tq b w)) - 1)))
    (k2 : max w (tv b w) ≠ w → J x yX4_voltsOfTry cX4_voltsOfTry 7 (some .int) D 0 0 Q 6 [some (.ref d), some (.int (nI i)), none, some (.int (nI dp)), some (.int (nI (max w (tv b w)))), some (.int (nI (t + 1))), none] [] (si h d 5 (nI (max P (tq b w)) - 1))) :
    J x yX4_voltsOfTry cX4_voltsOfTry 7 (some .int) D 0 0 Q 6 [some (.ref d), some (.int (nI i)), none, some (.int (nI dp)), some (.int (nI w)), some (.int (nI t)), none] [] (si h d 5 (nI P - 1)) := by
  have hC0 := hC.s5 (nI P - 1)
  have he := hC.2.2
  obtain ⟨⟨⟨hd0, hd1, hd2, hd3, hd4⟩, hq0, hq1, hq2, hq3⟩, h4, -⟩ := hC0
  have hC0 := hC.s5 (nI P - 1)
  have en : gi (si h d 5 (nI P - 1)) (d + 2) i = nI n := by rw [gi_si, if_neg (by omega)]; exact hn
  have eb : gi (si h d 5 (nI P - 1)) (d + 4) i = nI m := by rw [gi_si, if_neg (by omega)]; exact hb
  refine J_iload (pq := 8) dX4_voltsOfTry_6 rfl rfl (J_aload_n (pq := 9) dX4_voltsOfTry_8 rfl rfl (J_iload_n (pq := 10) dX4_voltsOfTry_9 rfl rfl (J_virtF (pq := 13) dX4_voltsOfTry_10 rfl (j_num hC0 hi) rfl tg_X4_numberOf l_X4_72 vi_X4_numberOf (by first | exact hd0 | exact hd1 | exact hd2 | exact hd3 | exact hd4) ⟨by decide, rfl⟩ (by omega) (Nat.zero_le _) (Nat.zero_le _) (Nat.le_of_ble_eq_true rfl) (J_icmp_ge (pq := 16) (tgt := 60) dX4_voltsOfTry_13 rfl rfl (fun c => ?_) (fun c => ?_)))))
  · rw [en, nI_leI (by omega) (by omega)] at c; omega
  · refine J_iload (pq := 18) dX4_voltsOfTry_16 rfl rfl (J_aload_n (pq := 19) dX4_voltsOfTry_18 rfl rfl (J_iload_n (pq := 20) dX4_voltsOfTry_19 rfl rfl (J_iconst (pq := 21) dX4_voltsOfTry_20 rfl c_iconst_1 (J_iadd (pq := 22) dX4_voltsOfTry_21 rfl (J_aload_n (pq := 23) dX4_voltsOfTry_22 rfl rfl (J_iload_n (pq := 24) dX4_voltsOfTry_23 rfl rfl (J_virtF (pq := 27) dX4_voltsOfTry_24 rfl (j_beh hC0 hi) rfl tg_X4_behindOf l_X4_82 vi_X4_behindOf (by first | exact hd0 | exact hd1 | exact hd2 | exact hd3 | exact hd4) ⟨by decide, rfl⟩ (by omega) (Nat.zero_le _) (Nat.zero_le _) (Nat.le_of_ble_eq_true rfl) (?_))))))))
    rw [eb, nI_1]
    refine J_iload (pq := 29) dX4_voltsOfTry_27 rfl rfl (J_iload_n (pq := 30) dX4_voltsOfTry_29 rfl rfl (J_iconst (pq := 31) dX4_voltsOfTry_30 rfl c_iconst_1 (J_iadd (pq := 32) dX4_voltsOfTry_31 rfl (?_))))
    rw [nI_1]
    refine J_virtF (pq := 35) dX4_voltsOfTry_32 rfl (vl_fn (D := D - 1) hV hC hO hS hm hdp (by omega) hw hP) rfl tg_X4_volts l_X4_39 vi_X4_volts (by first | exact hd0 | exact hd1 | exact hd2 | exact hd3 | exact hd4) ⟨by decide, rfl⟩ (by omega) (Nat.zero_le _) (Nat.zero_le _) (Nat.le_of_ble_eq_true rfl) (?_)
    refine J_statF (pq := 38) dX4_voltsOfTry_35 rfl (j_max (by omega) (by omega)) rfl tg_J9_max_7cf53 l_X4_75 st_J9_max_7cf53 (by omega) (Nat.zero_le _) (Nat.zero_le _) (Nat.le_of_ble_eq_true rfl) (J_istore (pq := 40) dX4_voltsOfTry_38 rfl (Nat.le_of_ble_eq_true rfl) (Nat.le_of_ble_eq_true rfl) rfl (J_iload (pq := 42) dX4_voltsOfTry_40 rfl rfl (J_iload (pq := 44) dX4_voltsOfTry_42 rfl rfl (J_icmp_ne (pq := 47) (tgt := 50) dX4_voltsOfTry_44 rfl rfl (fun c => ?_) (fun c => ?_)))))
    · rw [nI_eq (by omega) (by omega)] at c
      refine J_iload (pq := 52) dX4_voltsOfTry_50 rfl rfl (J_istore (pq := 54) dX4_voltsOfTry_52 rfl (Nat.le_of_ble_eq_true rfl) (Nat.le_of_ble_eq_true rfl) rfl (J_iinc (pq := 57) dX4_voltsOfTry_54 rfl c_iconst_1 rfl (Nat.le_of_ble_eq_true rfl) rfl (J_goto (tgt := 6) dX4_voltsOfTry_57 rfl (?_))))
      rw [nI_1]
      exact J_weak (by simp [lsub]) rfl rfl (k2 c)
    · rw [nI_eq (by omega) (by omega)] at c
      refine J_iload (pq := 49) dX4_voltsOfTry_47 rfl rfl (J_iret dX4_voltsOfTry_49 rfl rfl ?_)
      exact k1 c
theorem vt_fn {b : Cond} (hPG : PG b) (hV : vlC x h d e b) (hC : RKc h d e) {dd i m n v P dp D : Nat} (hO : POK b dd) (hS : DS (gi h) d b (i + 1) m) (hm : m ≤ e) (hi : i < e) (hn : gi h (d + 2) i = nI n) (hn1 : 1 ≤ n) (hn50 : n ≤ 50) (hb : gi h (d + 4) i = nI m) (hdp : dp + 1 + dd ≤ 5) (hD : 2 * dd + 3 ≤ D) (hv : v ≤ 30) (hP : P ≤ 31) : JF x yX4_voltsOfTry cX4_voltsOfTry 7 (some .int) D 0 0 [.ref d, .int (nI i), .int (nI v), .int (nI dp)] (si h d 5 (nI P - 1)) (some (.int (nI (max v (tv b v))))) (si h d 5 (nI (max P (tq b (if n ≤ 1 then v else max v (tv b v)))) - 1)) := by
  have he := hC.2.2
  have q1 := tv_30 b hPG dd hO v hv
  refine JM_of [some (.ref d), some (.int (nI i)), some (.int (nI v)), some (.int (nI dp)), none, none, none] (by decide) (Nat.le_of_ble_eq_true rfl) rfl ?_
  refine J_iload_n (pq := 1) dX4_voltsOfTry_0 rfl rfl (J_istore (pq := 3) dX4_voltsOfTry_1 rfl (Nat.le_of_ble_eq_true rfl) (Nat.le_of_ble_eq_true rfl) rfl (J_iconst (pq := 4) dX4_voltsOfTry_3 rfl c_iconst_0 (J_istore (pq := 6) dX4_voltsOfTry_4 rfl (Nat.le_of_ble_eq_true rfl) (Nat.le_of_ble_eq_true rfl) rfl (?_))))
  refine J_weak (ls' := [some (.ref d), some (.int (nI i)), none, some (.int (nI dp)), some (.int (nI v)), some (.int (nI 0)), none]) (by simp [lsub]; rfl) rfl rfl (vt_step hV hC hO hS hm hi hn hn50 hb hdp hD hv hP (by omega) q1.1 (fun hs => ?_) (fun hs => ?_))
  · rw [hs]
    by_cases n1 : n ≤ 1
    · rw [if_pos n1]; exact ⟨rfl, rfl⟩
    · rw [if_neg n1]; exact ⟨rfl, rfl⟩
  · have hw : max v (tv b v) ≤ 30 := by omega
    have q2 := tv_30 b hPG dd hO _ hw
    by_cases n1 : n ≤ 1
    · rw [if_pos n1]
      have hC0 := hC.s5 (nI (max P (tq b v)) - 1)
      obtain ⟨⟨⟨hd0, hd1, hd2, hd3, hd4⟩, hq0, hq1, hq2, hq3⟩, h4, -⟩ := hC0
      have hC0 := hC.s5 (nI (max P (tq b v)) - 1)
      have en : gi (si h d 5 (nI (max P (tq b v)) - 1)) (d + 2) i = nI n := by rw [gi_si, if_neg (by omega)]; exact hn
      refine J_iload (pq := 8) dX4_voltsOfTry_6 rfl rfl (J_aload_n (pq := 9) dX4_voltsOfTry_8 rfl rfl (J_iload_n (pq := 10) dX4_voltsOfTry_9 rfl rfl (J_virtF (pq := 13) dX4_voltsOfTry_10 rfl (j_num hC0 hi) rfl tg_X4_numberOf l_X4_72 vi_X4_numberOf (by first | exact hd0 | exact hd1 | exact hd2 | exact hd3 | exact hd4) ⟨by decide, rfl⟩ (by omega) (Nat.zero_le _) (Nat.zero_le _) (Nat.le_of_ble_eq_true rfl) (J_icmp_ge (pq := 16) (tgt := 60) dX4_voltsOfTry_13 rfl rfl (fun c => ?_) (fun c => ?_)))))
      · refine J_iload (pq := 62) dX4_voltsOfTry_60 rfl rfl (J_iret dX4_voltsOfTry_62 rfl rfl ?_)
        exact ⟨rfl, rfl⟩
      · rw [en, nI_leI (by omega) (by omega)] at c; omega
    · rw [if_neg n1]
      have hid := tv_idem hPG v
      have hmo := tq_mono b hPG v (max v (tv b v)) (by omega)
      refine vt_step hV hC hO hS hm hi hn hn50 hb hdp hD hw (by omega) (by omega) q2.1 (fun hs2 => ?_) (fun hs2 => ?_)
      · rw [show max (max P (tq b v)) (tq b (max v (tv b v))) = max P (tq b (max v (tv b v))) by omega]
        exact ⟨rfl, rfl⟩
      · exfalso; omega
set_option maxHeartbeats 1000000 in
theorem vl_all (hC : RKc h d e) : ∀ tc, PG tc → vlC x h d e tc :=
  P_ind (fun dd i j _ hS _ T dp v P D Q _ _ _ _ _ _ k => by
      have hS : i = j := hS
      subst hS
      rw [tv_N, tq_N, Nat.max_zero] at k
      exact k)
    (fun k n r hr ih dd i j hO hS hj T dp v P D Q hT hTe hdp hD hv hP kk => by
      obtain ⟨h1, h2⟩ : ((k = 0 ∧ n ≤ 30) ∨ (k = 1 ∧ 1 ≤ n ∧ n ≤ 50) ∨ (k = 2 ∧ n = 0)) ∧ POK r dd := hO
      have hS : gi h (d + 1) i = nI k ∧ gi h (d + 2) i = nI n ∧ gi h (d + 4) i = nI (i + 1) ∧ DS (gi h) d r (i + 1) j := hS
      obtain ⟨s1, s2, s3, s4⟩ := hS
      have hle := DS_le r hr _ _ s4
      have hC0 := hC.s5 (nI P - 1)
      have he := hC.2.2
      obtain ⟨⟨⟨hd0, hd1, hd2, hd3, hd4⟩, hq0, hq1, hq2, hq3⟩, h4, -⟩ := hC0
      have hC0 := hC.s5 (nI P - 1)
      have o1 : ∀ p a b, a ≠ d → gi (si h d 5 p) a b = gi h a b := fun p a b q => by rw [gi_si, if_neg (fun z => q z.1)]
      rw [tv_L, tq_L] at kk
      refine J_iload (pq := 16) dX4_volts_14 rfl rfl (J_iload_n (pq := 17) dX4_volts_16 rfl rfl (J_icmp_ge (pq := 20) (tgt := 162) dX4_volts_17 rfl rfl (fun c => ?_) (fun c => ?_)))
      · rw [nI_leI (by omega) (by omega)] at c; omega
      · refine J_aload_n (pq := 21) dX4_volts_20 rfl rfl (J_iload (pq := 23) dX4_volts_21 rfl rfl (J_virtF (pq := 26) dX4_volts_23 rfl (j_kind hC0 (by omega)) rfl tg_X4_kindOf l_X4_68 vi_X4_kindOf (by first | exact hd0 | exact hd1 | exact hd2 | exact hd3 | exact hd4) ⟨by decide, rfl⟩ (by omega) (Nat.zero_le _) (Nat.zero_le _) (Nat.le_of_ble_eq_true rfl) (?_)))
        rw [o1 _ _ _ (by omega), s1]
        rcases h1 with ⟨rfl, hn⟩ | ⟨rfl, hn⟩ | ⟨rfl, hn⟩
        · refine J_istore (pq := 28) dX4_volts_26 rfl (Nat.le_of_ble_eq_true rfl) (Nat.le_of_ble_eq_true rfl) rfl (J_iload (pq := 30) dX4_volts_28 rfl rfl (J_if_ne (pq := 33) (tgt := 44) dX4_volts_30 rfl rfl (fun c => ?_) (fun c => ?_)))
          · exact absurd rfl c
          · refine J_aload_n (pq := 34) dX4_volts_33 rfl rfl (J_iload (pq := 36) dX4_volts_34 rfl rfl (J_virtF (pq := 39) dX4_volts_36 rfl (j_num hC0 (by omega)) rfl tg_X4_numberOf l_X4_72 vi_X4_numberOf (by first | exact hd0 | exact hd1 | exact hd2 | exact hd3 | exact hd4) ⟨by decide, rfl⟩ (by omega) (Nat.zero_le _) (Nat.zero_le _) (Nat.le_of_ble_eq_true rfl) (?_)))
            rw [o1 _ _ _ (by omega), s2]
            refine J_istore (pq := 41) dX4_volts_39 rfl (Nat.le_of_ble_eq_true rfl) (Nat.le_of_ble_eq_true rfl) rfl (J_goto (tgt := 144) dX4_volts_41 rfl (?_))
            refine vl_144 (m := i + 1) hC0 (by omega) (by rw [o1 _ _ _ (by omega), s3]) (by omega) (by omega) (by omega) ?_
            refine ih dd (i + 1) j h2 s4 hj T dp n P D Q hT hTe hdp hD hn hP ?_
            rw [if_pos rfl, if_neg (by omega), Nat.zero_max] at kk
            exact kk
        · refine J_istore (pq := 28) dX4_volts_26 rfl (Nat.le_of_ble_eq_true rfl) (Nat.le_of_ble_eq_true rfl) rfl (J_iload (pq := 30) dX4_volts_28 rfl rfl (J_if_ne (pq := 33) (tgt := 44) dX4_volts_30 rfl rfl (fun c => ?_) (fun c => ?_)))
          · refine J_iload (pq := 46) dX4_volts_44 rfl rfl (J_iconst (pq := 47) dX4_volts_46 rfl c_iconst_1 (J_icmp_ne (pq := 50) (tgt := 66) dX4_volts_47 rfl rfl (fun c => ?_) (fun c => ?_)))
            · exact absurd rfl c
            · have e5 : gi (si h d 5 (nI P - 1)) d 5 = nI P - 1 := by rw [gi_si, if_pos ⟨rfl, rfl⟩]
              refine J_aload_n (pq := 51) dX4_volts_50 rfl rfl (J_aload_n (pq := 52) dX4_volts_51 rfl rfl (J_getI (pq := 55) dX4_volts_52 rfl f_X4_24 jsI (by first | exact hd0 | exact hd1 | exact hd2 | exact hd3 | exact hd4) (J_iload (pq := 57) dX4_volts_55 rfl rfl (?_))))
              rw [e5]
              refine J_statF (pq := 60) dX4_volts_57 rfl (j_J9_max_7cf53) rfl tg_J9_max_7cf53 l_X4_75 st_J9_max_7cf53 (by omega) (Nat.zero_le _) (Nat.zero_le _) (Nat.le_of_ble_eq_true rfl) (J_putI (pq := 63) dX4_volts_60 rfl f_X4_24 (Or.inl rfl) (by first | exact hd0 | exact hd1 | exact hd2 | exact hd3 | exact hd4) (J_goto (tgt := 144) dX4_volts_63 rfl (?_)))
              rw [pmax (by omega) (by omega), si_si]
              refine vl_144 (m := i + 1) (hC.s5 _) (by omega) (by rw [o1 _ _ _ (by omega), s3]) (by omega) (by omega) (by omega) ?_
              refine ih dd (i + 1) j h2 s4 hj T dp v (max P (v + 1)) D Q hT hTe hdp hD hv (by omega) ?_
              rw [if_neg (by omega), if_pos rfl, ← Nat.max_assoc] at kk
              exact kk
          · exact absurd c (by decide)
        · refine J_istore (pq := 28) dX4_volts_26 rfl (Nat.le_of_ble_eq_true rfl) (Nat.le_of_ble_eq_true rfl) rfl (J_iload (pq := 30) dX4_volts_28 rfl rfl (J_if_ne (pq := 33) (tgt := 44) dX4_volts_30 rfl rfl (fun c => ?_) (fun c => ?_)))
          · refine J_iload (pq := 46) dX4_volts_44 rfl rfl (J_iconst (pq := 47) dX4_volts_46 rfl c_iconst_1 (J_icmp_ne (pq := 50) (tgt := 66) dX4_volts_47 rfl rfl (fun c => ?_) (fun c => ?_)))
            · refine J_iload (pq := 68) dX4_volts_66 rfl rfl (J_iconst (pq := 69) dX4_volts_68 rfl c_iconst_4 (J_icmp_ne (pq := 72) (tgt := 126) dX4_volts_69 rfl rfl (fun c => ?_) (fun c => ?_)))
              · refine J_iload (pq := 128) dX4_volts_126 rfl rfl (J_iconst (pq := 129) dX4_volts_128 rfl c_iconst_3 (J_icmp_ne (pq := 132) (tgt := 144) dX4_volts_129 rfl rfl (fun c => ?_) (fun c => ?_)))
                · refine vl_144 (m := i + 1) hC0 (by omega) (by rw [o1 _ _ _ (by omega), s3]) (by omega) (by omega) (by omega) ?_
                  refine ih dd (i + 1) j h2 s4 hj T dp v P D Q hT hTe hdp hD hv hP ?_
                  rw [if_neg (by omega), if_neg (by omega), Nat.zero_max] at kk
                  exact kk
                · exact absurd c (by decide)
              · exact absurd c (by decide)
            · exact absurd c (by decide)
          · exact absurd c (by decide))
    (fun n b r hb hr ihb ihr dd i j hO hS hj T dp v P D Q hT hTe hdp hD hv hP kk => by
      obtain ⟨h1, h2, h3, h4'⟩ : (1 ≤ n ∧ n ≤ 50) ∧ 0 < dd ∧ POK b (dd - 1) ∧ POK r dd := hO
      have hS : ∃ m, gi h (d + 1) i = nI 3 ∧ gi h (d + 2) i = nI n ∧ gi h (d + 4) i = nI m ∧ DS (gi h) d b (i + 1) m ∧ DS (gi h) d r m j := hS
      obtain ⟨m, s1, s2, s3, s4, s5⟩ := hS
      have l1 := DS_le b hb _ _ s4
      have l2 := DS_le r hr _ _ s5
      have hC0 := hC.s5 (nI P - 1)
      have he := hC.2.2
      obtain ⟨⟨⟨hd0, hd1, hd2, hd3, hd4⟩, hq0, hq1, hq2, hq3⟩, h4, -⟩ := hC0
      have hC0 := hC.s5 (nI P - 1)
      have o1 : ∀ p a b, a ≠ d → gi (si h d 5 p) a b = gi h a b := fun p a b q => by rw [gi_si, if_neg (fun z => q z.1)]
      have q1 := tv_30 b hb _ h3 v hv
      have q2 := tv_30 b hb _ h3 (if n ≤ 1 then v else max v (tv b v)) (by split <;> omega)
      rw [tv_T, tq_T] at kk
      refine J_iload (pq := 16) dX4_volts_14 rfl rfl (J_iload_n (pq := 17) dX4_volts_16 rfl rfl (J_icmp_ge (pq := 20) (tgt := 162) dX4_volts_17 rfl rfl (fun c => ?_) (fun c => ?_)))
      · rw [nI_leI (by omega) (by omega)] at c; omega
      · refine J_aload_n (pq := 21) dX4_volts_20 rfl rfl (J_iload (pq := 23) dX4_volts_21 rfl rfl (J_virtF (pq := 26) dX4_volts_23 rfl (j_kind hC0 (by omega)) rfl tg_X4_kindOf l_X4_68 vi_X4_kindOf (by first | exact hd0 | exact hd1 | exact hd2 | exact hd3 | exact hd4) ⟨by decide, rfl⟩ (by omega) (Nat.zero_le _) (Nat.zero_le _) (Nat.le_of_ble_eq_true rfl) (?_)))
        rw [o1 _ _ _ (by omega), s1]
        refine J_istore (pq := 28) dX4_volts_26 rfl (Nat.le_of_ble_eq_true rfl) (Nat.le_of_ble_eq_true rfl) rfl (J_iload (pq := 30) dX4_volts_28 rfl rfl (J_if_ne (pq := 33) (tgt := 44) dX4_volts_30 rfl rfl (fun c => ?_) (fun c => ?_)))
        · refine J_iload (pq := 46) dX4_volts_44 rfl rfl (J_iconst (pq := 47) dX4_volts_46 rfl c_iconst_1 (J_icmp_ne (pq := 50) (tgt := 66) dX4_volts_47 rfl rfl (fun c => ?_) (fun c => ?_)))
          · refine J_iload (pq := 68) dX4_volts_66 rfl rfl (J_iconst (pq := 69) dX4_volts_68 rfl c_iconst_4 (J_icmp_ne (pq := 72) (tgt := 126) dX4_volts_69 rfl rfl (fun c => ?_) (fun c => ?_)))
            · refine J_iload (pq := 128) dX4_volts_126 rfl rfl (J_iconst (pq := 129) dX4_volts_128 rfl c_iconst_3 (J_icmp_ne (pq := 132) (tgt := 144) dX4_volts_129 rfl rfl (fun c => ?_) (fun c => ?_)))
              · exact absurd rfl c
              · refine J_aload_n (pq := 133) dX4_volts_132 rfl rfl (J_iload (pq := 135) dX4_volts_133 rfl rfl (J_iload (pq := 137) dX4_volts_135 rfl rfl (J_iload (pq := 139) dX4_volts_137 rfl rfl (J_virtF (pq := 142) dX4_volts_139 rfl (vt_fn (D := D - 1) hb ihb hC h3 s4 (by omega) (by omega) s2 h1.1 h1.2 s3 (by omega) (by omega) hv hP) rfl tg_X4_voltsOfTry l_X4_85 vi_X4_voltsOfTry (by first | exact hd0 | exact hd1 | exact hd2 | exact hd3 | exact hd4) ⟨by decide, rfl⟩ (by omega) (Nat.zero_le _) (Nat.zero_le _) (Nat.le_of_ble_eq_true rfl) (J_istore (pq := 144) dX4_volts_142 rfl (Nat.le_of_ble_eq_true rfl) (Nat.le_of_ble_eq_true rfl) rfl (?_))))))
                refine vl_144 (m := m) (hC.s5 _) (by omega) (by rw [o1 _ _ _ (by omega), s3]) (by omega) (by omega) (by omega) ?_
                refine ihr dd m j h4' s5 hj T dp _ _ D Q hT hTe hdp hD (by omega) (by omega) ?_
                rw [← Nat.max_assoc] at kk
                exact kk
            · exact absurd c (by decide)
          · exact absurd c (by decide)
        · exact absurd c (by decide))
    (fun a b r ha hb hr iha ihb ihr dd i j hO hS hj T dp v P D Q hT hTe hdp hD hv hP kk => by
      obtain ⟨h1, h2, h3, h4'⟩ : 0 < dd ∧ POK a (dd - 1) ∧ POK b (dd - 1) ∧ POK r dd := hO
      have hS : ∃ m1 m2, gi h (d + 1) i = nI 4 ∧ gi h (d + 3) i = nI m1 ∧ gi h (d + 4) i = nI m2 ∧ DS (gi h) d a (i + 1) m1 ∧ DS (gi h) d b m1 m2 ∧ DS (gi h) d r m2 j := hS
      obtain ⟨m1, m2, s1, s2, s3, s4, s5, s6⟩ := hS
      have l1 := DS_le a ha _ _ s4
      have l2 := DS_le b hb _ _ s5
      have l3 := DS_le r hr _ _ s6
      have hC0 := hC.s5 (nI P - 1)
      have he := hC.2.2
      obtain ⟨⟨⟨hd0, hd1, hd2, hd3, hd4⟩, hq0, hq1, hq2, hq3⟩, h4, -⟩ := hC0
      have hC0 := hC.s5 (nI P - 1)
      have o1 : ∀ p a b, a ≠ d → gi (si h d 5 p) a b = gi h a b := fun p a b q => by rw [gi_si, if_neg (fun z => q z.1)]
      have q1 := tv_30 a ha _ h2 v hv
      have q2 := tv_30 b hb _ h3 v hv
      rw [tv_O, tq_O] at kk
      refine J_iload (pq := 16) dX4_volts_14 rfl rfl (J_iload_n (pq := 17) dX4_volts_16 rfl rfl (J_icmp_ge (pq := 20) (tgt := 162) dX4_volts_17 rfl rfl (fun c => ?_) (fun c => ?_)))
      · rw [nI_leI (by omega) (by omega)] at c; omega
      · refine J_aload_n (pq := 21) dX4_volts_20 rfl rfl (J_iload (pq := 23) dX4_volts_21 rfl rfl (J_virtF (pq := 26) dX4_volts_23 rfl (j_kind hC0 (by omega)) rfl tg_X4_kindOf l_X4_68 vi_X4_kindOf (by first | exact hd0 | exact hd1 | exact hd2 | exact hd3 | exact hd4) ⟨by decide, rfl⟩ (by omega) (Nat.zero_le _) (Nat.zero_le _) (Nat.le_of_ble_eq_true rfl) (?_)))
        rw [o1 _ _ _ (by omega), s1]
        refine J_istore (pq := 28) dX4_volts_26 rfl (Nat.le_of_ble_eq_true rfl) (Nat.le_of_ble_eq_true rfl) rfl (J_iload (pq := 30) dX4_volts_28 rfl rfl (J_if_ne (pq := 33) (tgt := 44) dX4_volts_30 rfl rfl (fun c => ?_) (fun c => ?_)))
        · refine J_iload (pq := 46) dX4_volts_44 rfl rfl (J_iconst (pq := 47) dX4_volts_46 rfl c_iconst_1 (J_icmp_ne (pq := 50) (tgt := 66) dX4_volts_47 rfl rfl (fun c => ?_) (fun c => ?_)))
          · refine J_iload (pq := 68) dX4_volts_66 rfl rfl (J_iconst (pq := 69) dX4_volts_68 rfl c_iconst_4 (J_icmp_ne (pq := 72) (tgt := 126) dX4_volts_69 rfl rfl (fun c => ?_) (fun c => ?_)))
            · exact absurd rfl c
            · refine J_aload_n (pq := 73) dX4_volts_72 rfl rfl (J_iload (pq := 75) dX4_volts_73 rfl rfl (J_iconst (pq := 76) dX4_volts_75 rfl c_iconst_1 (J_iadd (pq := 77) dX4_volts_76 rfl (J_aload_n (pq := 78) dX4_volts_77 rfl rfl (J_iload (pq := 80) dX4_volts_78 rfl rfl (J_virtF (pq := 83) dX4_volts_80 rfl (j_els hC0 (by omega)) rfl tg_X4_otherwiseOf l_X4_79 vi_X4_otherwiseOf (by first | exact hd0 | exact hd1 | exact hd2 | exact hd3 | exact hd4) ⟨by decide, rfl⟩ (by omega) (Nat.zero_le _) (Nat.zero_le _) (Nat.le_of_ble_eq_true rfl) (?_)))))))
              rw [o1 _ _ _ (by omega), s2, nI_1]
              refine J_iload (pq := 85) dX4_volts_83 rfl rfl (J_iload (pq := 87) dX4_volts_85 rfl rfl (J_iconst (pq := 88) dX4_volts_87 rfl c_iconst_1 (J_iadd (pq := 89) dX4_volts_88 rfl (?_))))
              rw [nI_1]
              have hC1 := hC.s5 (nI (max P (tq a v)) - 1)
              refine J_virtF (pq := 92) dX4_volts_89 rfl (vl_fn (D := D - 1) iha hC h2 s4 (by omega) (show dp + 1 + (dd - 1) ≤ 5 by omega) (by omega) hv hP) rfl tg_X4_volts l_X4_39 vi_X4_volts (by first | exact hd0 | exact hd1 | exact hd2 | exact hd3 | exact hd4) ⟨by decide, rfl⟩ (by omega) (Nat.zero_le _) (Nat.zero_le _) (Nat.le_of_ble_eq_true rfl) (J_istore (pq := 94) dX4_volts_92 rfl (Nat.le_of_ble_eq_true rfl) (Nat.le_of_ble_eq_true rfl) rfl (?_))
              refine J_iload (pq := 96) dX4_volts_94 rfl rfl (J_aload_n (pq := 97) dX4_volts_96 rfl rfl (J_aload_n (pq := 98) dX4_volts_97 rfl rfl (J_iload (pq := 100) dX4_volts_98 rfl rfl (J_virtF (pq := 103) dX4_volts_100 rfl (j_els hC1 (by omega)) rfl tg_X4_otherwiseOf l_X4_79 vi_X4_otherwiseOf (by first | exact hd0 | exact hd1 | exact hd2 | exact hd3 | exact hd4) ⟨by decide, rfl⟩ (by omega) (Nat.zero_le _) (Nat.zero_le _) (Nat.le_of_ble_eq_true rfl) (?_)))))
              rw [o1 _ _ _ (by omega), s2]
              refine J_aload_n (pq := 104) dX4_volts_103 rfl rfl (J_iload (pq := 106) dX4_volts_104 rfl rfl (J_virtF (pq := 109) dX4_volts_106 rfl (j_beh hC1 (by omega)) rfl tg_X4_behindOf l_X4_82 vi_X4_behindOf (by first | exact hd0 | exact hd1 | exact hd2 | exact hd3 | exact hd4) ⟨by decide, rfl⟩ (by omega) (Nat.zero_le _) (Nat.zero_le _) (Nat.le_of_ble_eq_true rfl) (?_)))
              rw [o1 _ _ _ (by omega), s3]
              refine J_iload (pq := 111) dX4_volts_109 rfl rfl (J_iload (pq := 113) dX4_volts_111 rfl rfl (J_iconst (pq := 114) dX4_volts_113 rfl c_iconst_1 (J_iadd (pq := 115) dX4_volts_114 rfl (?_))))
              rw [nI_1]
              refine J_virtF (pq := 118) dX4_volts_115 rfl (vl_fn (D := D - 1) ihb hC h3 s5 (by omega) (show dp + 1 + (dd - 1) ≤ 5 by omega) (by omega) hv (by omega)) rfl tg_X4_volts l_X4_39 vi_X4_volts (by first | exact hd0 | exact hd1 | exact hd2 | exact hd3 | exact hd4) ⟨by decide, rfl⟩ (by omega) (Nat.zero_le _) (Nat.zero_le _) (Nat.le_of_ble_eq_true rfl) (?_)
              refine J_statF (pq := 121) dX4_volts_118 rfl (j_max (by omega) (by omega)) rfl tg_J9_max_7cf53 l_X4_75 st_J9_max_7cf53 (by omega) (Nat.zero_le _) (Nat.zero_le _) (Nat.le_of_ble_eq_true rfl) (J_istore (pq := 123) dX4_volts_121 rfl (Nat.le_of_ble_eq_true rfl) (Nat.le_of_ble_eq_true rfl) rfl (J_goto (tgt := 144) dX4_volts_123 rfl (?_)))
              refine vl_144 (m := m2) (hC.s5 _) (by omega) (by rw [o1 _ _ _ (by omega), s3]) (by omega) (by omega) (by omega) ?_
              refine ihr dd m2 j h4' s6 hj T dp _ _ D Q hT hTe hdp hD (by omega) (by omega) ?_
              rw [← Nat.max_assoc, ← Nat.max_assoc] at kk
              exact kk
          · exact absurd c (by decide)
        · exact absurd c (by decide))
end B2
