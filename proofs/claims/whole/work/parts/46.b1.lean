-- the class: a recipe's rows hold a tree
def DS (G : Nat → Nat → Int32) (d : Nat) : Cond → Nat → Nat → Prop := pfold (fun i j => i = j)
  (fun k n r i j => G (d + 1) i = nI k ∧ G (d + 2) i = nI n ∧ G (d + 4) i = nI (i + 1) ∧ r (i + 1) j)
  (fun n q r i j => ∃ m, G (d + 1) i = nI 3 ∧ G (d + 2) i = nI n ∧ G (d + 4) i = nI m ∧ q (i + 1) m ∧ r m j)
  (fun q1 q2 r i j => ∃ m1 m2, G (d + 1) i = nI 4 ∧ G (d + 3) i = nI m1 ∧ G (d + 4) i = nI m2 ∧ q1 (i + 1) m1 ∧ q2 m1 m2 ∧ r m2 j)
theorem DS_le {G : Nat → Nat → Int32} {d : Nat} : ∀ c, PG c → ∀ i j, DS G d c i j → j = i + psz c :=
  P_ind (fun i j h => by have h : i = j := h; show j = i + 0; omega)
    (fun k n r hr ih i j h => by
      have h : _ ∧ _ ∧ _ ∧ DS G d r (i + 1) j := h
      have := ih _ _ h.2.2.2
      show j = i + (1 + psz r)
      omega)
    (fun n q r hq hr ihq ihr i j h => by
      have h : ∃ m, _ ∧ _ ∧ _ ∧ DS G d q (i + 1) m ∧ DS G d r m j := h
      obtain ⟨m, -, -, -, h1, h2⟩ := h
      have := ihq _ _ h1
      have := ihr _ _ h2
      show j = i + (1 + psz q + psz r)
      omega)
    (fun q1 q2 r h1 h2 hr ih1 ih2 ihr i j h => by
      have h : ∃ m1 m2, _ ∧ _ ∧ _ ∧ DS G d q1 (i + 1) m1 ∧ DS G d q2 m1 m2 ∧ DS G d r m2 j := h
      obtain ⟨m1, m2, -, -, -, g1, g2, g3⟩ := h
      have := ih1 _ _ g1
      have := ih2 _ _ g2
      have := ihr _ _ g3
      show j = i + (1 + psz q1 + psz q2 + psz r)
      omega)
theorem DS_congr {G G' : Nat → Nat → Int32} {d d' : Nat} : ∀ c, PG c → ∀ i j, (∀ k, i ≤ k → k < j → G' (d' + 1) k = G (d + 1) k ∧ G' (d' + 2) k = G (d + 2) k ∧ G' (d' + 3) k = G (d + 3) k ∧ G' (d' + 4) k = G (d + 4) k) → DS G d c i j → DS G' d' c i j :=
  P_ind (fun i j _ h => h)
    (fun k n r hr ih i j hc h => by
      have h : _ ∧ _ ∧ _ ∧ DS G d r (i + 1) j := h
      have := DS_le r hr _ _ h.2.2.2
      have h0 := hc i (by omega) (by omega)
      exact ⟨h0.1.trans h.1, h0.2.1.trans h.2.1, h0.2.2.2.trans h.2.2.1, ih _ _ (fun k a b => hc k (by omega) b) h.2.2.2⟩)
    (fun n q r hq hr ihq ihr i j hc h => by
      have h : ∃ m, _ ∧ _ ∧ _ ∧ DS G d q (i + 1) m ∧ DS G d r m j := h
      obtain ⟨m, e1, e2, e3, h1, h2⟩ := h
      have := DS_le q hq _ _ h1
      have := DS_le r hr _ _ h2
      have h0 := hc i (by omega) (by omega)
      exact ⟨m, h0.1.trans e1, h0.2.1.trans e2, h0.2.2.2.trans e3, ihq _ _ (fun k a b => hc k (by omega) (by omega)) h1, ihr _ _ (fun k a b => hc k (by omega) (by omega)) h2⟩)
    (fun q1 q2 r h1 h2 hr ih1 ih2 ihr i j hc h => by
      have h : ∃ m1 m2, _ ∧ _ ∧ _ ∧ DS G d q1 (i + 1) m1 ∧ DS G d q2 m1 m2 ∧ DS G d r m2 j := h
      obtain ⟨m1, m2, e1, e2, e3, g1, g2, g3⟩ := h
      have := DS_le q1 h1 _ _ g1
      have := DS_le q2 h2 _ _ g2
      have := DS_le r hr _ _ g3
      have h0 := hc i (by omega) (by omega)
      exact ⟨m1, m2, h0.1.trans e1, h0.2.2.1.trans e2, h0.2.2.2.trans e3, ih1 _ _ (fun k a b => hc k (by omega) (by omega)) g1, ih2 _ _ (fun k a b => hc k (by omega) (by omega)) g2, ihr _ _ (fun k a b => hc k (by omega) (by omega)) g3⟩)
theorem DS_app {G : Nat → Nat → Int32} {b : Nat} {d : Cond} : ∀ c, PG c → ∀ i m j, DS G b c i m → DS G b d m j → DS G b (papp c d) i j :=
  P_ind (fun i m j h hd => by have h : i = m := h; subst h; exact hd)
    (fun k n r hr ih i m j h hd => by
      have h : _ ∧ _ ∧ _ ∧ DS G b r (i + 1) m := h
      exact ⟨h.1, h.2.1, h.2.2.1, ih _ _ _ h.2.2.2 hd⟩)
    (fun n q r hq hr ihq ihr i m j h hd => by
      have h : ∃ z, _ ∧ _ ∧ _ ∧ DS G b q (i + 1) z ∧ DS G b r z m := h
      obtain ⟨z, e1, e2, e3, h1, h2⟩ := h
      exact ⟨z, e1, e2, e3, h1, ihr _ _ _ h2 hd⟩)
    (fun q1 q2 r h1 h2 hr ih1 ih2 ihr i m j h hd => by
      have h : ∃ m1 m2, _ ∧ _ ∧ _ ∧ DS G b q1 (i + 1) m1 ∧ DS G b q2 m1 m2 ∧ DS G b r m2 m := h
      obtain ⟨m1, m2, e1, e2, e3, g1, g2, g3⟩ := h
      exact ⟨m1, m2, e1, e2, e3, g1, g2, ihr _ _ _ g3 hd⟩)
/-- a recipe of e steps lies at d and behind -/
def RK (h : JH) (d : Nat) : Prop := ((kd h)[d]? = some (4, 8) ∧ (kd h)[d + 1]? = some (50, 40) ∧ (kd h)[d + 2]? = some (50, 40) ∧ (kd h)[d + 3]? = some (50, 40) ∧ (kd h)[d + 4]? = some (50, 40)) ∧ gr h d 0 = some (d + 1) ∧ gr h d 1 = some (d + 2) ∧ gr h d 2 = some (d + 3) ∧ gr h d 3 = some (d + 4)
theorem RK.of3 {h g : JH} {d : Nat} (hC : RK h d) (e : g.2.2 = h.2.2) : RK g d := by
  have ek : kd g = kd h := by show g.2.2.2 = h.2.2.2; rw [e]
  have er : ∀ a b, gr g a b = gr h a b := fun a b => by show g.2.2.1 a b = h.2.2.1 a b; rw [e]
  unfold RK
  rw [ek]
  simp only [er]
  exact hC
def RKc (h : JH) (d e : Nat) : Prop := RK h d ∧ gi h d 4 = nI e ∧ e ≤ 40
theorem RKc.of3 {h g : JH} {d e : Nat} (hC : RKc h d e) (e3 : g.2.2 = h.2.2) (e4 : gi g d 4 = gi h d 4) : RKc g d e := ⟨hC.1.of3 e3, e4.trans hC.2.1, hC.2.2⟩
section B1
variable {x : JX} {h : JH} {d e : Nat}
theorem j_X4_isStep {i : Nat} (hC : RKc h d e) (hi : i < 2147483648) : JF x yX4_isStep cX4_isStep 2 (some .boolean) 0 0 0 [.ref d, .int (nI i)] h (some (.int (bi (decide (i < e))))) h := by
  obtain ⟨⟨⟨hd0, hd1, hd2, hd3, hd4⟩, hq0, hq1, hq2, hq3⟩, h4, he⟩ := hC
  refine JM_of [some (.ref d), some (.int (nI i))] (by decide) (Nat.le_of_ble_eq_true rfl) rfl ?_
  refine J_iload_n (pq := 1) dX4_isStep_0 rfl rfl (J_if_lt (pq := 4) (tgt := 22) dX4_isStep_1 rfl rfl (fun c => ?_) (fun c => ?_))
  · rw [show (0 : Int32) = nI 0 from rfl, nI_ltI hi (by omega)] at c; omega
  · refine J_iload_n (pq := 5) dX4_isStep_4 rfl rfl (J_aload_n (pq := 6) dX4_isStep_5 rfl rfl (J_getI (pq := 9) dX4_isStep_6 rfl f_X4_28 jsI (by first | exact hd0 | exact hd1 | exact hd2 | exact hd3 | exact hd4) (J_icmp_ge (pq := 12) (tgt := 22) dX4_isStep_9 rfl rfl (fun c => ?_) (fun c => ?_))))
    · rw [h4, nI_leI (by omega) hi] at c
      refine J_iconst (pq := 23) dX4_isStep_22 rfl c_iconst_0 (J_iret dX4_isStep_23 rfl (by first | rfl | exact bi_nar _) ?_)
      exact ⟨by rw [decide_eq_false (by omega)]; rfl, rfl⟩
    · rw [h4, nI_leI (by omega) hi] at c
      have c0 := c
      refine J_iload_n (pq := 13) dX4_isStep_12 rfl rfl (J_bipush (pq := 15) dX4_isStep_13 rfl c_bipush_40 (J_icmp_ge (pq := 18) (tgt := 22) dX4_isStep_15 rfl rfl (fun c => ?_) (fun c => ?_)))
      · rw [show (40 : Int32) = nI 40 from rfl, nI_leI (by omega) hi] at c; omega
      · refine J_iconst (pq := 19) dX4_isStep_18 rfl c_iconst_1 (J_goto (tgt := 23) dX4_isStep_19 rfl (J_iret dX4_isStep_23 rfl (by first | rfl | exact bi_nar _) ?_))
        exact ⟨by rw [decide_eq_true (by omega)]; rfl, rfl⟩
theorem j_kind {i : Nat} (hC : RKc h d e) (hi : i < e) : JF x yX4_kindOf cX4_kindOf 2 (some .int) 1 0 0 [.ref d, .int (nI i)] h (some (.int (gi h (d + 1) i))) h := by
  have hC0 := hC
  obtain ⟨⟨⟨hd0, hd1, hd2, hd3, hd4⟩, hq0, hq1, hq2, hq3⟩, h4, he⟩ := hC
  have hb : vp_in (nI i) 40 := vp_in_nI (by omega) (by omega)
  refine JM_of [some (.ref d), some (.int (nI i))] (by decide) (Nat.le_of_ble_eq_true rfl) rfl ?_
  refine J_aload_n (pq := 1) dX4_kindOf_0 rfl rfl (J_iload_n (pq := 2) dX4_kindOf_1 rfl rfl (J_virtF (pq := 5) dX4_kindOf_2 rfl (j_X4_isStep hC0 (by omega)) rfl tg_X4_isStep l_X4_35 vi_X4_isStep (by first | exact hd0 | exact hd1 | exact hd2 | exact hd3 | exact hd4) ⟨by decide, rfl⟩ (Nat.le_of_ble_eq_true rfl) (Nat.zero_le _) (Nat.zero_le _) (Nat.le_of_ble_eq_true rfl) (J_if_eq (pq := 8) (tgt := 17) dX4_kindOf_5 rfl rfl (fun c => ?_) (fun c => ?_))))
  · rw [decide_eq_true hi] at c; exact absurd c (by decide)
  · refine J_aload_n (pq := 9) dX4_kindOf_8 rfl rfl (J_getA (pq := 12) dX4_kindOf_9 rfl f_X4_9 (by decide +kernel) (by first | exact hd0 | exact hd1 | exact hd2 | exact hd3 | exact hd4) (by first | exact hq0 | exact hq1 | exact hq2 | exact hq3) (J_iload_n (pq := 13) dX4_kindOf_12 rfl rfl (J_iald (pq := 14) dX4_kindOf_13 rfl (by first | exact hd0 | exact hd1 | exact hd2 | exact hd3 | exact hd4) (by assumption) (J_goto (tgt := 18) dX4_kindOf_14 rfl (J_iret dX4_kindOf_18 rfl rfl ?_)))))
    exact ⟨by rw [ixn (by omega)], rfl⟩
theorem j_num {i : Nat} (hC : RKc h d e) (hi : i < e) : JF x yX4_numberOf cX4_numberOf 2 (some .int) 1 0 0 [.ref d, .int (nI i)] h (some (.int (gi h (d + 2) i))) h := by
  have hC0 := hC
  obtain ⟨⟨⟨hd0, hd1, hd2, hd3, hd4⟩, hq0, hq1, hq2, hq3⟩, h4, he⟩ := hC
  have hb : vp_in (nI i) 40 := vp_in_nI (by omega) (by omega)
  refine JM_of [some (.ref d), some (.int (nI i))] (by decide) (Nat.le_of_ble_eq_true rfl) rfl ?_
  refine J_aload_n (pq := 1) dX4_numberOf_0 rfl rfl (J_iload_n (pq := 2) dX4_numberOf_1 rfl rfl (J_virtF (pq := 5) dX4_numberOf_2 rfl (j_X4_isStep hC0 (by omega)) rfl tg_X4_isStep l_X4_35 vi_X4_isStep (by first | exact hd0 | exact hd1 | exact hd2 | exact hd3 | exact hd4) ⟨by decide, rfl⟩ (Nat.le_of_ble_eq_true rfl) (Nat.zero_le _) (Nat.zero_le _) (Nat.le_of_ble_eq_true rfl) (J_if_eq (pq := 8) (tgt := 17) dX4_numberOf_5 rfl rfl (fun c => ?_) (fun c => ?_))))
  · rw [decide_eq_true hi] at c; exact absurd c (by decide)
  · refine J_aload_n (pq := 9) dX4_numberOf_8 rfl rfl (J_getA (pq := 12) dX4_numberOf_9 rfl f_X4_15 (by decide +kernel) (by first | exact hd0 | exact hd1 | exact hd2 | exact hd3 | exact hd4) (by first | exact hq0 | exact hq1 | exact hq2 | exact hq3) (J_iload_n (pq := 13) dX4_numberOf_12 rfl rfl (J_iald (pq := 14) dX4_numberOf_13 rfl (by first | exact hd0 | exact hd1 | exact hd2 | exact hd3 | exact hd4) (by assumption) (J_goto (tgt := 18) dX4_numberOf_14 rfl (J_iret dX4_numberOf_18 rfl rfl ?_)))))
    exact ⟨by rw [ixn (by omega)], rfl⟩
theorem j_els {i : Nat} (hC : RKc h d e) (hi : i < e) : JF x yX4_otherwiseOf cX4_otherwiseOf 2 (some .int) 1 0 0 [.ref d, .int (nI i)] h (some (.int (gi h (d + 3) i))) h := by
  have hC0 := hC
  obtain ⟨⟨⟨hd0, hd1, hd2, hd3, hd4⟩, hq0, hq1, hq2, hq3⟩, h4, he⟩ := hC
  have hb : vp_in (nI i) 40 := vp_in_nI (by omega) (by omega)
  refine JM_of [some (.ref d), some (.int (nI i))] (by decide) (Nat.le_of_ble_eq_true rfl) rfl ?_
  refine J_aload_n (pq := 1) dX4_otherwiseOf_0 rfl rfl (J_iload_n (pq := 2) dX4_otherwiseOf_1 rfl rfl (J_virtF (pq := 5) dX4_otherwiseOf_2 rfl (j_X4_isStep hC0 (by omega)) rfl tg_X4_isStep l_X4_35 vi_X4_isStep (by first | exact hd0 | exact hd1 | exact hd2 | exact hd3 | exact hd4) ⟨by decide, rfl⟩ (Nat.le_of_ble_eq_true rfl) (Nat.zero_le _) (Nat.zero_le _) (Nat.le_of_ble_eq_true rfl) (J_if_eq (pq := 8) (tgt := 17) dX4_otherwiseOf_5 rfl rfl (fun c => ?_) (fun c => ?_))))
  · rw [decide_eq_true hi] at c; exact absurd c (by decide)
  · refine J_aload_n (pq := 9) dX4_otherwiseOf_8 rfl rfl (J_getA (pq := 12) dX4_otherwiseOf_9 rfl f_X4_18 (by decide +kernel) (by first | exact hd0 | exact hd1 | exact hd2 | exact hd3 | exact hd4) (by first | exact hq0 | exact hq1 | exact hq2 | exact hq3) (J_iload_n (pq := 13) dX4_otherwiseOf_12 rfl rfl (J_iald (pq := 14) dX4_otherwiseOf_13 rfl (by first | exact hd0 | exact hd1 | exact hd2 | exact hd3 | exact hd4) (by assumption) (J_goto (tgt := 21) dX4_otherwiseOf_14 rfl (J_iret dX4_otherwiseOf_21 rfl rfl ?_)))))
    exact ⟨by rw [ixn (by omega)], rfl⟩
theorem j_beh {i : Nat} (hC : RKc h d e) (hi : i < e) : JF x yX4_behindOf cX4_behindOf 2 (some .int) 1 0 0 [.ref d, .int (nI i)] h (some (.int (gi h (d + 4) i))) h := by
  have hC0 := hC
  obtain ⟨⟨⟨hd0, hd1, hd2, hd3, hd4⟩, hq0, hq1, hq2, hq3⟩, h4, he⟩ := hC
  have hb : vp_in (nI i) 40 := vp_in_nI (by omega) (by omega)
  refine JM_of [some (.ref d), some (.int (nI i))] (by decide) (Nat.le_of_ble_eq_true rfl) rfl ?_
  refine J_aload_n (pq := 1) dX4_behindOf_0 rfl rfl (J_iload_n (pq := 2) dX4_behindOf_1 rfl rfl (J_virtF (pq := 5) dX4_behindOf_2 rfl (j_X4_isStep hC0 (by omega)) rfl tg_X4_isStep l_X4_35 vi_X4_isStep (by first | exact hd0 | exact hd1 | exact hd2 | exact hd3 | exact hd4) ⟨by decide, rfl⟩ (Nat.le_of_ble_eq_true rfl) (Nat.zero_le _) (Nat.zero_le _) (Nat.le_of_ble_eq_true rfl) (J_if_eq (pq := 8) (tgt := 17) dX4_behindOf_5 rfl rfl (fun c => ?_) (fun c => ?_))))
  · rw [decide_eq_true hi] at c; exact absurd c (by decide)
  · refine J_aload_n (pq := 9) dX4_behindOf_8 rfl rfl (J_getA (pq := 12) dX4_behindOf_9 rfl f_X4_21 (by decide +kernel) (by first | exact hd0 | exact hd1 | exact hd2 | exact hd3 | exact hd4) (by first | exact hq0 | exact hq1 | exact hq2 | exact hq3) (J_iload_n (pq := 13) dX4_behindOf_12 rfl rfl (J_iald (pq := 14) dX4_behindOf_13 rfl (by first | exact hd0 | exact hd1 | exact hd2 | exact hd3 | exact hd4) (by assumption) (J_goto (tgt := 21) dX4_behindOf_14 rfl (J_iret dX4_behindOf_21 rfl rfl ?_)))))
    exact ⟨by rw [ixn (by omega)], rfl⟩
end B1
