-- the class: a recipe is written down
section R1
variable {x : JX} {h : JH} {d e : Nat}
theorem j_clear (hC : RK h d) : JF x yX4_clear cX4_clear 1 none 0 0 0 [.ref d] h none (si h d 4 0) := by
  obtain ⟨⟨hd0, hd1, hd2, hd3, hd4⟩, hq0, hq1, hq2, hq3⟩ := hC
  refine JM_of [some (.ref d)] (by decide) (Nat.le_of_ble_eq_true rfl) rfl ?_
  refine J_aload_n (pq := 1) dX4_clear_0 rfl rfl (J_iconst (pq := 2) dX4_clear_1 rfl c_iconst_0 (J_putI (pq := 5) dX4_clear_2 rfl f_X4_28 (Or.inl rfl) (by first | exact hd0 | exact hd1 | exact hd2 | exact hd3 | exact hd4) (J_vret dX4_clear_5 rfl ?_)))
  exact ⟨rfl, rfl⟩
theorem j_isFull (hC : RKc h d e) : JF x yX4_isFull cX4_isFull 1 (some .boolean) 0 0 0 [.ref d] h (some (.int (bi (decide (e = 40))))) h := by
  obtain ⟨⟨⟨hd0, hd1, hd2, hd3, hd4⟩, hq0, hq1, hq2, hq3⟩, h4, he⟩ := hC
  refine JM_of [some (.ref d)] (by decide) (Nat.le_of_ble_eq_true rfl) rfl ?_
  refine J_aload_n (pq := 1) dX4_isFull_0 rfl rfl (J_getI (pq := 4) dX4_isFull_1 rfl f_X4_28 jsI (by first | exact hd0 | exact hd1 | exact hd2 | exact hd3 | exact hd4) (J_bipush (pq := 6) dX4_isFull_4 rfl c_bipush_40 (J_icmp_lt (pq := 9) (tgt := 13) dX4_isFull_6 rfl rfl (fun c => ?_) (fun c => ?_))))
  · rw [h4, show (40 : Int32) = nI 40 from rfl, nI_ltI (by omega) (by omega)] at c
    refine J_iconst (pq := 14) dX4_isFull_13 rfl c_iconst_0 (J_iret dX4_isFull_14 rfl (by first | rfl | exact bi_nar _) ?_)
    exact ⟨by rw [decide_eq_false (by omega)]; rfl, rfl⟩
  · rw [h4, show (40 : Int32) = nI 40 from rfl, nI_ltI (by omega) (by omega)] at c
    refine J_iconst (pq := 10) dX4_isFull_9 rfl c_iconst_1 (J_goto (tgt := 14) dX4_isFull_10 rfl (J_iret dX4_isFull_14 rfl (by first | rfl | exact bi_nar _) ?_))
    exact ⟨by rw [decide_eq_true (by omega)]; rfl, rfl⟩
def aSt (h : JH) (d e : Nat) (k : Int32) : JH := si (si (si (si (si h (d + 1) e k) (d + 2) e 0) (d + 3) e (nI (e + 1))) (d + 4) e (nI (e + 1))) d 4 (nI (e + 1))
theorem j_addStep {k : Int32} (hC : RKc h d e) (he : e < 40) : JF x yX4_addStep cX4_addStep 2 (some .int) 1 0 0 [.ref d, .int k] h (some (.int (nI e))) (aSt h d e k) := by
  have hC0 := hC
  obtain ⟨⟨⟨hd0, hd1, hd2, hd3, hd4⟩, hq0, hq1, hq2, hq3⟩, h4, -⟩ := hC
  have hb : vp_in (nI e) 40 := vp_in_nI (by omega) (by omega)
  have hx : ix (nI e) = e := ixn (by omega)
  refine JM_of [some (.ref d), some (.int k)] (by decide) (Nat.le_of_ble_eq_true rfl) rfl ?_
  refine J_aload_n (pq := 1) dX4_addStep_0 rfl rfl (J_virtF (pq := 4) dX4_addStep_1 rfl (j_isFull hC0) rfl tg_X4_isFull l_X4_31 vi_X4_isFull (by first | exact hd0 | exact hd1 | exact hd2 | exact hd3 | exact hd4) ⟨by decide, rfl⟩ (Nat.le_of_ble_eq_true rfl) (Nat.zero_le _) (Nat.zero_le _) (Nat.le_of_ble_eq_true rfl) (J_if_ne (pq := 7) (tgt := 14) dX4_addStep_4 rfl rfl (fun c => ?_) (fun c => ?_)))
  · rw [decide_eq_false (by omega)] at c; exact absurd rfl c
  refine J_aload_n (pq := 8) dX4_addStep_7 rfl rfl (J_getI (pq := 11) dX4_addStep_8 rfl f_X4_28 jsI (by first | exact hd0 | exact hd1 | exact hd2 | exact hd3 | exact hd4) (J_if_ge (pq := 14) (tgt := 16) dX4_addStep_11 rfl rfl (fun c => ?_) (fun c => ?_)))
  rotate_left
  · rw [h4, show (0 : Int32) = nI 0 from rfl, nI_leI (by omega) (by omega)] at c; omega
  refine J_aload_n (pq := 17) dX4_addStep_16 rfl rfl (J_getA (pq := 20) dX4_addStep_17 rfl f_X4_9 (by decide +kernel) (by first | exact hd0 | exact hd1 | exact hd2 | exact hd3 | exact hd4) (by first | exact hq0 | exact hq1 | exact hq2 | exact hq3) (J_aload_n (pq := 21) dX4_addStep_20 rfl rfl (J_getI (pq := 24) dX4_addStep_21 rfl f_X4_28 jsI (by first | exact hd0 | exact hd1 | exact hd2 | exact hd3 | exact hd4) (?_))))
  rw [h4]
  refine J_iload_n (pq := 25) dX4_addStep_24 rfl rfl (J_iast (pq := 26) dX4_addStep_25 rfl (by first | exact hd0 | exact hd1 | exact hd2 | exact hd3 | exact hd4) (by assumption) (J_aload_n (pq := 27) dX4_addStep_26 rfl rfl (J_getA (pq := 30) dX4_addStep_27 rfl f_X4_15 (by decide +kernel) (by first | exact hd0 | exact hd1 | exact hd2 | exact hd3 | exact hd4) (by first | exact hq0 | exact hq1 | exact hq2 | exact hq3) (J_aload_n (pq := 31) dX4_addStep_30 rfl rfl (J_getI (pq := 34) dX4_addStep_31 rfl f_X4_28 jsI (by first | exact hd0 | exact hd1 | exact hd2 | exact hd3 | exact hd4) (?_))))))
  rw [hx, gi_si, if_neg (by omega), h4]
  refine J_iconst (pq := 35) dX4_addStep_34 rfl c_iconst_0 (J_iast (pq := 36) dX4_addStep_35 rfl (by first | exact hd0 | exact hd1 | exact hd2 | exact hd3 | exact hd4) (by assumption) (J_aload_n (pq := 37) dX4_addStep_36 rfl rfl (J_getA (pq := 40) dX4_addStep_37 rfl f_X4_18 (by decide +kernel) (by first | exact hd0 | exact hd1 | exact hd2 | exact hd3 | exact hd4) (by first | exact hq0 | exact hq1 | exact hq2 | exact hq3) (J_aload_n (pq := 41) dX4_addStep_40 rfl rfl (J_getI (pq := 44) dX4_addStep_41 rfl f_X4_28 jsI (by first | exact hd0 | exact hd1 | exact hd2 | exact hd3 | exact hd4) (?_))))))
  rw [hx, gi_si, if_neg (by omega), gi_si, if_neg (by omega), h4]
  refine J_aload_n (pq := 45) dX4_addStep_44 rfl rfl (J_getI (pq := 48) dX4_addStep_45 rfl f_X4_28 jsI (by first | exact hd0 | exact hd1 | exact hd2 | exact hd3 | exact hd4) (J_iconst (pq := 49) dX4_addStep_48 rfl c_iconst_1 (J_iadd (pq := 50) dX4_addStep_49 rfl (?_))))
  rw [gi_si, if_neg (by omega), gi_si, if_neg (by omega), h4, nI_1]
  refine J_iast (pq := 51) dX4_addStep_50 rfl (by first | exact hd0 | exact hd1 | exact hd2 | exact hd3 | exact hd4) (by assumption) (J_aload_n (pq := 52) dX4_addStep_51 rfl rfl (J_getA (pq := 55) dX4_addStep_52 rfl f_X4_21 (by decide +kernel) (by first | exact hd0 | exact hd1 | exact hd2 | exact hd3 | exact hd4) (by first | exact hq0 | exact hq1 | exact hq2 | exact hq3) (J_aload_n (pq := 56) dX4_addStep_55 rfl rfl (J_getI (pq := 59) dX4_addStep_56 rfl f_X4_28 jsI (by first | exact hd0 | exact hd1 | exact hd2 | exact hd3 | exact hd4) (?_)))))
  rw [hx, gi_si, if_neg (by omega), gi_si, if_neg (by omega), gi_si, if_neg (by omega), h4]
  refine J_aload_n (pq := 60) dX4_addStep_59 rfl rfl (J_getI (pq := 63) dX4_addStep_60 rfl f_X4_28 jsI (by first | exact hd0 | exact hd1 | exact hd2 | exact hd3 | exact hd4) (J_iconst (pq := 64) dX4_addStep_63 rfl c_iconst_1 (J_iadd (pq := 65) dX4_addStep_64 rfl (?_))))
  rw [gi_si, if_neg (by omega), gi_si, if_neg (by omega), gi_si, if_neg (by omega), h4, nI_1]
  refine J_iast (pq := 66) dX4_addStep_65 rfl (by first | exact hd0 | exact hd1 | exact hd2 | exact hd3 | exact hd4) (by assumption) (J_aload_n (pq := 67) dX4_addStep_66 rfl rfl (J_dup (pq := 68) dX4_addStep_67 rfl rfl (J_getI (pq := 71) dX4_addStep_68 rfl f_X4_28 jsI (by first | exact hd0 | exact hd1 | exact hd2 | exact hd3 | exact hd4) (J_iconst (pq := 72) dX4_addStep_71 rfl c_iconst_1 (J_iadd (pq := 73) dX4_addStep_72 rfl (?_))))))
  rw [hx, gi_si, if_neg (by omega), gi_si, if_neg (by omega), gi_si, if_neg (by omega), gi_si, if_neg (by omega), h4, nI_1]
  refine J_putI (pq := 76) dX4_addStep_73 rfl f_X4_28 (Or.inl rfl) (by first | exact hd0 | exact hd1 | exact hd2 | exact hd3 | exact hd4) (J_aload_n (pq := 77) dX4_addStep_76 rfl rfl (J_getI (pq := 80) dX4_addStep_77 rfl f_X4_28 jsI (by first | exact hd0 | exact hd1 | exact hd2 | exact hd3 | exact hd4) (J_iconst (pq := 81) dX4_addStep_80 rfl c_iconst_1 (J_isub (pq := 82) dX4_addStep_81 rfl (J_iret dX4_addStep_82 rfl rfl ?_)))))
  refine ⟨?_, rfl⟩
  rw [gi_si, if_pos ⟨rfl, rfl⟩, nI_pred]
theorem j_setNum {i : Nat} {v : Int32} (hC : RKc h d e) (hi : i < e) : JF x yX4_setNumber cX4_setNumber 3 none 1 0 0 [.ref d, .int (nI i), .int v] h none (si h (d + 2) i v) := by
  have hC0 := hC
  obtain ⟨⟨⟨hd0, hd1, hd2, hd3, hd4⟩, hq0, hq1, hq2, hq3⟩, h4, he⟩ := hC
  have hb : vp_in (nI i) 40 := vp_in_nI (by omega) (by omega)
  refine JM_of [some (.ref d), some (.int (nI i)), some (.int v)] (by decide) (Nat.le_of_ble_eq_true rfl) rfl ?_
  refine J_aload_n (pq := 1) dX4_setNumber_0 rfl rfl (J_iload_n (pq := 2) dX4_setNumber_1 rfl rfl (J_virtF (pq := 5) dX4_setNumber_2 rfl (j_X4_isStep hC0 (by omega)) rfl tg_X4_isStep l_X4_35 vi_X4_isStep (by first | exact hd0 | exact hd1 | exact hd2 | exact hd3 | exact hd4) ⟨by decide, rfl⟩ (Nat.le_of_ble_eq_true rfl) (Nat.zero_le _) (Nat.zero_le _) (Nat.le_of_ble_eq_true rfl) (J_if_eq (pq := 8) (tgt := 15) dX4_setNumber_5 rfl rfl (fun c => ?_) (fun c => ?_))))
  · rw [decide_eq_true hi] at c; exact absurd c (by decide)
  refine J_aload_n (pq := 9) dX4_setNumber_8 rfl rfl (J_getA (pq := 12) dX4_setNumber_9 rfl f_X4_15 (by decide +kernel) (by first | exact hd0 | exact hd1 | exact hd2 | exact hd3 | exact hd4) (by first | exact hq0 | exact hq1 | exact hq2 | exact hq3) (J_iload_n (pq := 13) dX4_setNumber_12 rfl rfl (J_iload_n (pq := 14) dX4_setNumber_13 rfl rfl (J_iast (pq := 15) dX4_setNumber_14 rfl (by first | exact hd0 | exact hd1 | exact hd2 | exact hd3 | exact hd4) (by assumption) (J_vret dX4_setNumber_15 rfl ?_)))))
  exact ⟨rfl, by rw [ixn (by omega)]⟩
theorem j_startElse {i : Nat} (hC : RKc h d e) (hi : i < e) : JF x yX4_startOtherwise cX4_startOtherwise 2 none 1 0 0 [.ref d, .int (nI i)] h none (si h (d + 3) i (nI e)) := by
  have hC0 := hC
  obtain ⟨⟨⟨hd0, hd1, hd2, hd3, hd4⟩, hq0, hq1, hq2, hq3⟩, h4, he⟩ := hC
  have hb : vp_in (nI i) 40 := vp_in_nI (by omega) (by omega)
  refine JM_of [some (.ref d), some (.int (nI i))] (by decide) (Nat.le_of_ble_eq_true rfl) rfl ?_
  refine J_aload_n (pq := 1) dX4_startOtherwise_0 rfl rfl (J_iload_n (pq := 2) dX4_startOtherwise_1 rfl rfl (J_virtF (pq := 5) dX4_startOtherwise_2 rfl (j_X4_isStep hC0 (by omega)) rfl tg_X4_isStep l_X4_35 vi_X4_isStep (by first | exact hd0 | exact hd1 | exact hd2 | exact hd3 | exact hd4) ⟨by decide, rfl⟩ (Nat.le_of_ble_eq_true rfl) (Nat.zero_le _) (Nat.zero_le _) (Nat.le_of_ble_eq_true rfl) (J_if_eq (pq := 8) (tgt := 18) dX4_startOtherwise_5 rfl rfl (fun c => ?_) (fun c => ?_))))
  · rw [decide_eq_true hi] at c; exact absurd c (by decide)
  refine J_aload_n (pq := 9) dX4_startOtherwise_8 rfl rfl (J_getA (pq := 12) dX4_startOtherwise_9 rfl f_X4_18 (by decide +kernel) (by first | exact hd0 | exact hd1 | exact hd2 | exact hd3 | exact hd4) (by first | exact hq0 | exact hq1 | exact hq2 | exact hq3) (J_iload_n (pq := 13) dX4_startOtherwise_12 rfl rfl (J_aload_n (pq := 14) dX4_startOtherwise_13 rfl rfl (J_getI (pq := 17) dX4_startOtherwise_14 rfl f_X4_28 jsI (by first | exact hd0 | exact hd1 | exact hd2 | exact hd3 | exact hd4) (J_iast (pq := 18) dX4_startOtherwise_17 rfl (by first | exact hd0 | exact hd1 | exact hd2 | exact hd3 | exact hd4) (by assumption) (J_vret dX4_startOtherwise_18 rfl ?_))))))
  exact ⟨rfl, by rw [ixn (by omega), h4]⟩
theorem j_close {i : Nat} (hC : RKc h d e) (hi : i < e) : JF x yX4_close cX4_close 2 none 1 0 0 [.ref d, .int (nI i)] h none (si h (d + 4) i (nI e)) := by
  have hC0 := hC
  obtain ⟨⟨⟨hd0, hd1, hd2, hd3, hd4⟩, hq0, hq1, hq2, hq3⟩, h4, he⟩ := hC
  have hb : vp_in (nI i) 40 := vp_in_nI (by omega) (by omega)
  refine JM_of [some (.ref d), some (.int (nI i))] (by decide) (Nat.le_of_ble_eq_true rfl) rfl ?_
  refine J_aload_n (pq := 1) dX4_close_0 rfl rfl (J_iload_n (pq := 2) dX4_close_1 rfl rfl (J_virtF (pq := 5) dX4_close_2 rfl (j_X4_isStep hC0 (by omega)) rfl tg_X4_isStep l_X4_35 vi_X4_isStep (by first | exact hd0 | exact hd1 | exact hd2 | exact hd3 | exact hd4) ⟨by decide, rfl⟩ (Nat.le_of_ble_eq_true rfl) (Nat.zero_le _) (Nat.zero_le _) (Nat.le_of_ble_eq_true rfl) (J_if_eq (pq := 8) (tgt := 18) dX4_close_5 rfl rfl (fun c => ?_) (fun c => ?_))))
  · rw [decide_eq_true hi] at c; exact absurd c (by decide)
  refine J_aload_n (pq := 9) dX4_close_8 rfl rfl (J_getA (pq := 12) dX4_close_9 rfl f_X4_21 (by decide +kernel) (by first | exact hd0 | exact hd1 | exact hd2 | exact hd3 | exact hd4) (by first | exact hq0 | exact hq1 | exact hq2 | exact hq3) (J_iload_n (pq := 13) dX4_close_12 rfl rfl (J_aload_n (pq := 14) dX4_close_13 rfl rfl (J_getI (pq := 17) dX4_close_14 rfl f_X4_28 jsI (by first | exact hd0 | exact hd1 | exact hd2 | exact hd3 | exact hd4) (J_iast (pq := 18) dX4_close_17 rfl (by first | exact hd0 | exact hd1 | exact hd2 | exact hd3 | exact hd4) (by assumption) (J_vret dX4_close_18 rfl ?_))))))
  exact ⟨rfl, by rw [ixn (by omega), h4]⟩
end R1
/-- the class's rows hold what was read so far: open blocks, the steps since -/
def DZ (G : Nat → Nat → Int32) (d : Nat) : List Fr → Cond → Nat → Prop
  | [], cur, e => DS G d cur 0 e
  | (acc, part, num, a) :: fs, cur, e => ∃ i, DZ G d fs acc i ∧ G 9 fs.length = nI i ∧ G 10 fs.length = bi (decide (part = 1)) ∧ ((part = 0 ∧ G (d + 1) i = nI 3 ∧ G (d + 2) i = nI num ∧ DS G d cur (i + 1) e) ∨ (part = 1 ∧ G (d + 1) i = nI 4 ∧ DS G d cur (i + 1) e) ∨ (part = 2 ∧ G (d + 1) i = nI 4 ∧ ∃ m, G (d + 3) i = nI m ∧ DS G d a (i + 1) m ∧ DS G d cur m e))
theorem DZ_congr {G G' : Nat → Nat → Int32} {d : Nat} : ∀ fs cur e, FOK fs → PG cur → (∀ k, k < e → G' (d + 1) k = G (d + 1) k ∧ G' (d + 2) k = G (d + 2) k ∧ G' (d + 3) k = G (d + 3) k ∧ G' (d + 4) k = G (d + 4) k) → (∀ u, u < fs.length → G' 9 u = G 9 u ∧ G' 10 u = G 10 u) → DZ G d fs cur e → DZ G' d fs cur e
  | [], cur, e, _, hc, hr, _, hz => DS_congr cur hc 0 e (fun k _ hk => hr k hk) hz
  | (acc, part, num, a) :: fs, cur, e, hF, hc, hr, hu, hz => by
    obtain ⟨f1, f2, f3, -, -, -, -, -⟩ := hF
    obtain ⟨i, z1, z2, z3, z4⟩ := hz
    have hie : i < e := by
      rcases z4 with ⟨-, -, -, z⟩ | ⟨-, -, z⟩ | ⟨-, -, m, -, za, zb⟩
      · have := DS_le cur hc _ _ z; omega
      · have := DS_le cur hc _ _ z; omega
      · have := DS_le a f3 _ _ za; have := DS_le cur hc _ _ zb; omega
    have hu0 := hu fs.length (by simp)
    refine ⟨i, DZ_congr fs acc i f1 f2 (fun k hk => hr k (by omega)) (fun u q => hu u (by simp; omega)) z1, hu0.1.trans z2, hu0.2.trans z3, ?_⟩
    have hi := hr i hie
    rcases z4 with ⟨y1, y2, y3, y4⟩ | ⟨y1, y2, y3⟩ | ⟨y1, y2, m, y3, y4, y5⟩
    · exact Or.inl ⟨y1, hi.1.trans y2, hi.2.1.trans y3, DS_congr cur hc _ _ (fun k _ hk => hr k hk) y4⟩
    · exact Or.inr (Or.inl ⟨y1, hi.1.trans y2, DS_congr cur hc _ _ (fun k _ hk => hr k hk) y3⟩)
    · have := DS_le cur hc _ _ y5
      exact Or.inr (Or.inr ⟨y1, hi.1.trans y2, m, hi.2.2.1.trans y3, DS_congr a f3 _ _ (fun k _ hk => hr k (by omega)) y4, DS_congr cur hc _ _ (fun k _ hk => hr k hk) y5⟩)
/-- one more step behind what was read -/
theorem DZ_app {G : Nat → Nat → Int32} {d : Nat} {q : Cond} {e e' : Nat} : ∀ fs cur, FOK fs → PG cur → DZ G d fs cur e → DS G d q e e' → DZ G d fs (papp cur q) e'
  | [], cur, _, hc, hz, hq => DS_app cur hc _ _ _ hz hq
  | (acc, part, num, a) :: fs, cur, hF, hc, hz, hq => by
    obtain ⟨i, z1, z2, z3, z4⟩ := hz
    refine ⟨i, z1, z2, z3, ?_⟩
    rcases z4 with ⟨y1, y2, y3, y4⟩ | ⟨y1, y2, y3⟩ | ⟨y1, y2, m, y3, y4, y5⟩
    · exact Or.inl ⟨y1, y2, y3, DS_app cur hc _ _ _ y4 hq⟩
    · exact Or.inr (Or.inl ⟨y1, y2, DS_app cur hc _ _ _ y3 hq⟩)
    · exact Or.inr (Or.inr ⟨y1, y2, m, y3, y4, DS_app cur hc _ _ _ y5 hq⟩)
theorem DZ_e {G : Nat → Nat → Int32} {d : Nat} : ∀ fs cur e, FOK fs → PG cur → DZ G d fs cur e → e = fsz fs + psz cur
  | [], cur, e, _, hc, hz => by have := DS_le cur hc _ _ hz; show e = 0 + psz cur; omega
  | (acc, part, num, a) :: fs, cur, e, hF, hc, hz => by
    obtain ⟨f1, f2, f3, -, -, -, f8, -⟩ := hF
    obtain ⟨i, z1, z2, z3, z4⟩ := hz
    have ih := DZ_e fs acc i f1 f2 z1
    show e = psz acc + 1 + (if part = 2 then psz a else 0) + fsz fs + psz cur
    rcases z4 with ⟨y1, -, -, y4⟩ | ⟨y1, -, y3⟩ | ⟨y1, -, m, -, y4, y5⟩
    · have := DS_le cur hc _ _ y4; rw [if_neg (by omega)]; omega
    · have := DS_le cur hc _ _ y3; rw [if_neg (by omega)]; omega
    · have := DS_le a f3 _ _ y4; have := DS_le cur hc _ _ y5; rw [if_pos y1]; omega
/-- what reading a recipe changes in the class -/
def RcX (d : Nat) (h g : JH) : Prop := g.2 = h.2 ∧ ∀ a b, a ≠ 8 → a ≠ 9 → a ≠ 10 → ¬ (a = 4 ∧ b ≤ 1) → ¬ (d ≤ a ∧ a ≤ d + 4) → gi g a b = gi h a b
theorem RcX.rf (d : Nat) (h : JH) : RcX d h h := ⟨rfl, fun _ _ _ _ _ _ _ => rfl⟩
theorem RcX.tr {d : Nat} {h g k : JH} (h1 : RcX d h g) (h2 : RcX d g k) : RcX d h k := ⟨h2.1.trans h1.1, fun a b q1 q2 q3 q4 q5 => (h2.2 a b q1 q2 q3 q4 q5).trans (h1.2 a b q1 q2 q3 q4 q5)⟩
theorem RcX.si {d : Nat} {h g : JH} (h1 : RcX d h g) {o k : Nat} {v : Int32} (ho : o = 8 ∨ o = 9 ∨ o = 10 ∨ (o = 4 ∧ k ≤ 1) ∨ (d ≤ o ∧ o ≤ d + 4)) : RcX d h (si g o k v) := ⟨h1.1, fun a b q1 q2 q3 q4 q5 => by rw [gi_si, if_neg (by omega)]; exact h1.2 a b q1 q2 q3 q4 q5⟩
theorem RcX.tok {d : Nat} {h g : JH} (h1 : RcX d h g) (t : Nat → Int32) (n p : Nat) : RcX d h (xTok g t n p) := ((h1.si (Or.inl rfl)).si (Or.inl rfl)).si (Or.inl rfl)
/-- the class stands in a recipe's text -/
def XP (h : JH) (t : Nat → Int32) (n p : Nat) (fs : List Fr) (cur : Cond) (e d : Nat) : Prop := Kin h ∧ XR h ∧ RKc h d e ∧ gi h 1 1 = nI n ∧ gi h 2 = t ∧ p ≤ n ∧ XT h t n p ∧ gi h 8 7 = nI fs.length ∧ DZ (gi h) d fs cur e ∧ FOK fs ∧ PG cur ∧ POK cur (5 - fs.length) ∧ fs.length ≤ 5 ∧ 13 ≤ d ∧ d + 4 < 38
def StX (t : Nat → Int32) (n d : Nat) (r : (Nat × Nat) ⊕ (Nat × List Fr × Cond × Nat)) (h : JH) (v : Option Value) (g : JH) : Prop :=
  RcX d h g ∧ match r with
  | .inl f => v = some (.int 0) ∧ gi g 4 0 = nI f.1 ∧ gi g 4 1 = nI f.2
  | .inr s => v = some (.int 1) ∧ gi g 4 0 = gi h 4 0 ∧ gi g 4 1 = gi h 4 1 ∧ XP g t n s.1 s.2.1 s.2.2.1 s.2.2.2 d
