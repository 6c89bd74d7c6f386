-- the reference: what it answers to askings that it refuses
section Z4
variable {x : JX} {h g : JH} {nc : Nat} {s : Nat → Nat}
theorem j_X9_chipOf_no {v w : Int32} (hK : Kin h) (hv : isin v 0 (gi h 38 12 - 1) = false) : JF x yX9_chipOf cX9_chipOf 5 (some .int) 2 0 0 [.ref 38, .int v, .int w] h (some (.int (-1))) h := by
  refine JM_of [some (.ref 38), some (.int v), some (.int w), none, none] (by decide) (Nat.le_of_ble_eq_true rfl) rfl ?_
  refine J_aload_n (pq := 1) dX9_chipOf_0 rfl rfl (J_iload_n (pq := 2) dX9_chipOf_1 rfl rfl (J_virtF (pq := 5) dX9_chipOf_2 rfl (j_X9_isChip hK) rfl tg_X9_isChip l_X9_199 vi_X9_isChip (hK.at rfl) ⟨by decide, rfl⟩ (Nat.le_of_ble_eq_true rfl) (Nat.zero_le _) (Nat.zero_le _) (Nat.le_of_ble_eq_true rfl) (J_if_ne (pq := 8) (tgt := 10) dX9_chipOf_5 rfl rfl (fun c => ?_) (fun c => ?_))))
  · rw [hv] at c; exact absurd rfl c
  · refine J_iconst (pq := 9) dX9_chipOf_8 rfl c_iconst_m1 (J_iret dX9_chipOf_9 rfl rfl ?_)
    exact ⟨rfl, rfl⟩
theorem j_X9_chipOf_neg {v w : Int32} (hK : Kin h) (hw : w < 0) : JF x yX9_chipOf cX9_chipOf 5 (some .int) 2 0 0 [.ref 38, .int v, .int w] h (some (.int (-1))) h := by
  have hw2 := ti_lt.mp hw
  have z0 : (0 : Int32).toInt = 0 := rfl
  have z5 : (500 : Int32).toInt = 500 := rfl
  have z1 : (100 : Int32).toInt = 100 := rfl
  refine JM_of [some (.ref 38), some (.int v), some (.int w), none, none] (by decide) (Nat.le_of_ble_eq_true rfl) rfl ?_
  refine J_aload_n (pq := 1) dX9_chipOf_0 rfl rfl (J_iload_n (pq := 2) dX9_chipOf_1 rfl rfl (J_virtF (pq := 5) dX9_chipOf_2 rfl (j_X9_isChip hK) rfl tg_X9_isChip l_X9_199 vi_X9_isChip (hK.at rfl) ⟨by decide, rfl⟩ (Nat.le_of_ble_eq_true rfl) (Nat.zero_le _) (Nat.zero_le _) (Nat.le_of_ble_eq_true rfl) (J_if_ne (pq := 8) (tgt := 10) dX9_chipOf_5 rfl rfl (fun c => ?_) (fun c => ?_))))
  · refine J_iload_n (pq := 11) dX9_chipOf_10 rfl rfl (J_sipush (pq := 14) dX9_chipOf_11 rfl c_sipush_500 (J_icmp_lt (pq := 17) (tgt := 45) dX9_chipOf_14 rfl rfl (fun c => ?_) (fun c => ?_)))
    · refine J_iload_n (pq := 46) dX9_chipOf_45 rfl rfl (J_bipush (pq := 48) dX9_chipOf_46 rfl c_bipush_100 (J_icmp_lt (pq := 51) (tgt := 135) dX9_chipOf_48 rfl rfl (fun c => ?_) (fun c => ?_)))
      · refine J_iload_n (pq := 136) dX9_chipOf_135 rfl rfl (?_)
        refine J_tabOut (tgt := 224) dX9_chipOf_136 (Or.inl (by omega)) rfl ?_
        refine J_iconst (pq := 225) dX9_chipOf_224 rfl c_iconst_m1 (J_iret dX9_chipOf_225 rfl rfl ?_)
        exact ⟨rfl, rfl⟩
      · rw [ti_lt] at c; omega
    · rw [ti_lt] at c; omega
  · refine J_iconst (pq := 9) dX9_chipOf_8 rfl c_iconst_m1 (J_iret dX9_chipOf_9 rfl rfl ?_)
    exact ⟨rfl, rfl⟩
theorem j_X9_wrong_no {v f w : Int32} (hK : Kin h) (ho : (isin v 0 (gi h 38 12 - 1) && (isin f 0 255 && isin w 1 8)) = false) : JF x yX9_wrong cX9_wrong 6 (some .int) 3 0 0 [.ref 38, .int v, .int f, .int w] h (some (.int (-1))) h := by
  refine JM_of [some (.ref 38), some (.int v), some (.int f), some (.int w), none, none] (by decide) (Nat.le_of_ble_eq_true rfl) rfl ?_
  refine J_aload_n (pq := 1) dX9_wrong_0 rfl rfl (J_iload_n (pq := 2) dX9_wrong_1 rfl rfl (J_virtF (pq := 5) dX9_wrong_2 rfl (j_X9_isChip hK) rfl tg_X9_isChip l_X9_199 vi_X9_isChip (hK.at rfl) ⟨by decide, rfl⟩ (Nat.le_of_ble_eq_true rfl) (Nat.zero_le _) (Nat.zero_le _) (Nat.le_of_ble_eq_true rfl) (J_if_eq (pq := 8) (tgt := 16) dX9_wrong_5 rfl rfl (fun c => ?_) (fun c => ?_))))
  · refine J_iconst (pq := 17) dX9_wrong_16 rfl c_iconst_m1 (J_iret dX9_wrong_17 rfl rfl ?_)
    exact ⟨rfl, rfl⟩
  · rw [bi_0, Bool.not_eq_false] at c
    have c1 := c
    refine J_iload_n (pq := 9) dX9_wrong_8 rfl rfl (J_iload_n (pq := 10) dX9_wrong_9 rfl rfl (J_statF (pq := 13) dX9_wrong_10 rfl (j_X9_isPart) rfl tg_X9_isPart l_X9_317 st_X9_isPart (Nat.le_of_ble_eq_true rfl) (Nat.zero_le _) (Nat.zero_le _) (Nat.le_of_ble_eq_true rfl) (J_if_ne (pq := 16) (tgt := 18) dX9_wrong_13 rfl rfl (fun c => ?_) (fun c => ?_))))
    · rw [bi_0, Bool.not_eq_false] at c
      rw [c1, c] at ho
      exact absurd ho (by decide)
    · refine J_iconst (pq := 17) dX9_wrong_16 rfl c_iconst_m1 (J_iret dX9_wrong_17 rfl rfl ?_)
      exact ⟨rfl, rfl⟩
theorem j_X9_read_no {v u f w : Int32} (hK : Kin h) (ho : (isin v 0 (gi h 38 12 - 1) && (isin f 0 255 && isin w 1 8)) = false) : JF x yX9_read cX9_read 8 (some .int) 3 0 0 [.ref 38, .int v, .int u, .int f, .int w] h (some (.int (-1))) h := by
  refine JM_of [some (.ref 38), some (.int v), some (.int u), some (.int f), some (.int w), none, none, none] (by decide) (Nat.le_of_ble_eq_true rfl) rfl ?_
  refine J_aload_n (pq := 1) dX9_read_0 rfl rfl (J_iload_n (pq := 2) dX9_read_1 rfl rfl (J_virtF (pq := 5) dX9_read_2 rfl (j_X9_isChip hK) rfl tg_X9_isChip l_X9_199 vi_X9_isChip (hK.at rfl) ⟨by decide, rfl⟩ (Nat.le_of_ble_eq_true rfl) (Nat.zero_le _) (Nat.zero_le _) (Nat.le_of_ble_eq_true rfl) (J_if_eq (pq := 8) (tgt := 17) dX9_read_5 rfl rfl (fun c => ?_) (fun c => ?_))))
  · refine J_iconst (pq := 18) dX9_read_17 rfl c_iconst_m1 (J_iret dX9_read_18 rfl rfl ?_)
    exact ⟨rfl, rfl⟩
  · rw [bi_0, Bool.not_eq_false] at c
    have c1 := c
    refine J_iload_n (pq := 9) dX9_read_8 rfl rfl (J_iload (pq := 11) dX9_read_9 rfl rfl (J_statF (pq := 14) dX9_read_11 rfl (j_X9_isPart) rfl tg_X9_isPart l_X9_317 st_X9_isPart (Nat.le_of_ble_eq_true rfl) (Nat.zero_le _) (Nat.zero_le _) (Nat.le_of_ble_eq_true rfl) (J_if_ne (pq := 17) (tgt := 19) dX9_read_14 rfl rfl (fun c => ?_) (fun c => ?_))))
    · rw [bi_0, Bool.not_eq_false] at c
      rw [c1, c] at ho
      exact absurd ho (by decide)
    · refine J_iconst (pq := 18) dX9_read_17 rfl c_iconst_m1 (J_iret dX9_read_18 rfl rfl ?_)
      exact ⟨rfl, rfl⟩
end Z4
section Z5
variable {x : JX} {h g : JH} {L L' : Nat}
theorem RC1.set {i q s : Nat} (hC : RC1 h i q s L) (ek : ∀ (a : Nat) (b : Nat × Nat), (kd h)[a]? = some b → (kd g)[a]? = some b) (er : ∀ b, gr g q b = gr h q b) (x0 : ∀ b, b ≤ 7 → gi g q b = gi h q b) (f1 : ∀ a, 44 ≤ a → a ≤ 51 → gi g a i = gi h a i) (x15 : gi g q 15 = gi g 52 i) (m : ∃ m, m ≤ 100000 * L' ∧ gi g q 16 = nI m ∧ gl g 53 i = lN m) (r : ∀ a, a < 8 * s → gi g (q + 3) a = gi g 54 (64 * i + a) ∧ gi g (q + 4) a = gi g 55 (64 * i + a) ∧ gi g (q + 5) a = gi g 56 (64 * i + a) ∧ gi g (q + 6) a = gi g 57 (64 * i + a) ∧ gi g (q + 7) a = gi g 58 (64 * i + a) ∧ (∃ b, b < 256 ∧ gi g 54 (64 * i + a) = nI b) ∧ ∃ b, b < 256 ∧ gi g 55 (64 * i + a) = nI b) (r1 : ∀ b, b < 8 → gi g (q + 1) b = gi g 59 (8 * i + b)) (r2 : ∀ p, p < 28 → gi g (q + 2) p = gi g 60 (28 * i + p)) : RC1 g i q s L' := by
  obtain ⟨c1, c2, ⟨d1, d2, d3, d4, d5, d6, d7, d8⟩, ⟨b, b1, b2⟩, -, -, -, -⟩ := hC
  exact ⟨c1.mono ek er (x0 0 (by omega)), by rw [f1 _ (by omega) (by omega)]; exact c2, ⟨by rw [x0 _ (by omega), f1 _ (by omega) (by omega)]; exact d1, by rw [x0 _ (by omega), f1 _ (by omega) (by omega)]; exact d2, by rw [x0 _ (by omega), f1 _ (by omega) (by omega)]; exact d3, by rw [x0 _ (by omega), f1 _ (by omega) (by omega)]; exact d4, by rw [x0 _ (by omega), f1 _ (by omega) (by omega)]; exact d5, by rw [x0 _ (by omega), f1 _ (by omega) (by omega)]; exact d6, by rw [x0 _ (by omega), f1 _ (by omega) (by omega)]; exact d7, x15⟩, ⟨b, b1, by rw [f1 _ (by omega) (by omega)]; exact b2⟩, m, r, r1, r2⟩
/-- another chip than the one that changed -/
theorem RC1.o {i q s : Nat} (hC : RC1 h i q s L) (hL : L ≤ L') (hs : s ≤ 8) (ek : ∀ (a : Nat) (b : Nat × Nat), (kd h)[a]? = some b → (kd g)[a]? = some b) (er : ∀ b, gr g q b = gr h q b) (e1 : ∀ a b, q ≤ a → a ≤ q + 7 → gi g a b = gi h a b) (f1 : ∀ a, 44 ≤ a → a ≤ 52 → gi g a i = gi h a i) (f2 : ∀ a b, 54 ≤ a → a ≤ 58 → b < 64 → gi g a (64 * i + b) = gi h a (64 * i + b)) (f3 : ∀ b, b < 8 → gi g 59 (8 * i + b) = gi h 59 (8 * i + b)) (f4 : ∀ b, b < 28 → gi g 60 (28 * i + b) = gi h 60 (28 * i + b)) (e3 : gl g 53 i = gl h 53 i) : RC1 g i q s L' := by
  have hC0 := hC
  obtain ⟨-, -, ⟨-, -, -, -, -, -, -, d8⟩, -, ⟨m, m1, m2, m3⟩, c5, c6, c7⟩ := hC
  have x1 : ∀ k b, k ≤ 7 → gi g (q + k) b = gi h (q + k) b := fun k b hk => e1 _ _ (by omega) (by omega)
  have x0 : ∀ b, gi g q b = gi h q b := fun b => e1 _ _ (by omega) (by omega)
  refine hC0.set ek er (fun b _ => x0 b) (fun a p1 p2 => f1 a p1 (by omega)) (by rw [x0, f1 _ (by omega) (by omega)]; exact d8) ⟨m, by have := Nat.mul_le_mul_left 100000 hL; omega, by rw [x0]; exact m2, by rw [e3]; exact m3⟩ (fun a ha => ?_) (fun b hb => by rw [x1 1 b (by omega), f3 b hb]; exact c6 b hb) (fun p hp => by rw [x1 2 p (by omega), f4 p hp]; exact c7 p hp)
  obtain ⟨z1, z2, z3, z4, z5, z6, z7⟩ := c5 a ha
  have ha6 : a < 64 := by omega
  exact ⟨by rw [x1 3 a (by omega), f2 _ a (by omega) (by omega) ha6]; exact z1, by rw [x1 4 a (by omega), f2 _ a (by omega) (by omega) ha6]; exact z2, by rw [x1 5 a (by omega), f2 _ a (by omega) (by omega) ha6]; exact z3, by rw [x1 6 a (by omega), f2 _ a (by omega) (by omega) ha6]; exact z4, by rw [x1 7 a (by omega), f2 _ a (by omega) (by omega) ha6]; exact z5, by rw [f2 _ a (by omega) (by omega) ha6]; exact z6, by rw [f2 _ a (by omega) (by omega) ha6]; exact z7⟩
theorem RCh.one {nc i : Nat} {q s : Nat → Nat} (hC : RCh h L nc q s) (hL : L ≤ L') (ek : ∀ (a : Nat) (b : Nat × Nat), (kd h)[a]? = some b → (kd g)[a]? = some b) (el : (kd h).length ≤ (kd g).length) (er : ∀ a b, (a = 11 ∨ 76 ≤ a) → a < (kd h).length → gr g a b = gr h a b) (e0 : gi g 0 7 = gi h 0 7) (e9 : gi g 38 12 = gi h 38 12) (e1 : ∀ a b, 76 ≤ a → a < (kd h).length → (a < q i ∨ q i + 8 ≤ a) → gi g a b = gi h a b) (f1 : ∀ a j, 44 ≤ a → a ≤ 52 → j ≠ i → gi g a j = gi h a j) (f2 : ∀ a b, 54 ≤ a → a ≤ 58 → (b < 64 * i ∨ 64 * i + 64 ≤ b) → gi g a b = gi h a b) (f3 : ∀ b, (b < 8 * i ∨ 8 * i + 8 ≤ b) → gi g 59 b = gi h 59 b) (f4 : ∀ b, (b < 28 * i ∨ 28 * i + 28 ≤ b) → gi g 60 b = gi h 60 b) (e3 : ∀ j, j ≠ i → gl g 53 j = gl h 53 j) (h76 : 76 ≤ (kd h).length) (hi : i < nc) (hN : RC1 g i (q i) (s i) L') : RCh g L' nc q s := by
  obtain ⟨c1, c2, c3, c4, c5, c6⟩ := hC
  refine ⟨c1, e0.trans c2, e9.trans c3, fun j hj => ?_, c5, fun j hj hj4 => ?_⟩
  rotate_left
  · obtain ⟨z1, z2, z3, z4, z5⟩ := c6 j hj hj4
    exact ⟨by rw [f1 _ _ (by omega) (by omega) (by omega)]; exact z1, by rw [e3 _ (by omega)]; exact z2, fun a ha => by rw [f2 _ _ (by omega) (by omega) (by omega)]; exact z3 a ha, fun a ha => by rw [f3 _ (by omega)]; exact z4 a ha, fun a ha => by rw [f4 _ (by omega)]; exact z5 a ha⟩
  obtain ⟨z1, z2, z3, z4⟩ := c4 j hj
  refine ⟨by rw [er _ _ (Or.inl rfl) (by omega)]; exact z1, z2, by omega, ?_⟩
  by_cases hji : j = i
  · rw [hji]; exact hN
  · have hq : q j + 8 ≤ q i ∨ q i + 8 ≤ q j := by
      rcases Nat.lt_or_ge j i with hl | hl
      · exact Or.inl (c5 j i hl hi)
      · exact Or.inr (c5 i j (by omega) hj)
    exact z4.o hL z4.1.2.2.2.2 ek (fun b => er _ _ (Or.inr z2) (by omega)) (fun a b q1 q2 => e1 _ _ (by omega) (by omega) (by omega)) (fun a p1 p2 => f1 a j p1 p2 hji) (fun a b p1 p2 p3 => f2 a _ p1 p2 (by omega)) (fun b p => f3 _ (by omega)) (fun b p => f4 _ (by omega)) (e3 j hji)
theorem RCh.mw {nc : Nat} {q s : Nat → Nat} (hC : RCh h L nc q s) (hK : Kin h) (hM : MR h) : MW h nc s := ⟨hK, hM, hC.2.2.1, hC.1, fun i hi => by obtain ⟨-, -, -, z4⟩ := hC.2.2.2.1 i hi; exact ⟨z4.2.1, z4.1.2.2.2⟩⟩
theorem Kin.len (hK : Kin h) : 76 ≤ (kd h).length := by obtain ⟨r, hr⟩ := hK; rw [hr, List.length_append]; simp
theorem REL.chp (hR : REL h L) (hL : L ≤ L') (e : g.2.2 = h.2.2) (el : gl g 38 5 = gl h 38 5) (e1 : ∀ a b, ((a < 38 ∧ a ≠ 5 ∧ a ≠ 6 ∧ a ≠ 7 ∧ a ≠ 8 ∧ a ≠ 9 ∧ a ≠ 10) ∨ (39 ≤ a ∧ a ≤ 40) ∨ (61 ≤ a ∧ a ≤ 67) ∨ (a = 38 ∧ (b = 2 ∨ b = 3 ∨ b = 4))) → gi g a b = gi h a b) (hC : ∃ nc q s, RCh g L' nc q s) : REL g L' := by
  obtain ⟨hK, hX, hM, h1, h2, h3, h4, -, ⟨ρ, h6⟩, h7⟩ := hR
  have ek : kd g = kd h := by show g.2.2.2 = h.2.2.2; rw [e]
  have er : ∀ a b, gr g a b = gr h a b := fun a b => by show g.2.2.1 a b = h.2.2.1 a b; rw [e]
  exact ⟨hK.of3 e, hX.of3 e, hM.of3 e, h1.c (e1 _ _ (by omega)) (e1 _ _ (by omega)) (fun j => e1 _ _ (by omega)) (fun j => e1 _ _ (by omega)), h2.c (fun j _ => e1 _ _ (by omega)) (fun j _ => e1 _ _ (by omega)), h3.c (e1 _ _ (by omega)) (e1 _ _ (by omega)) (e1 _ _ (by omega)) (e1 _ _ (by omega)), h4.c hL (e1 _ _ (by omega)) el, hC, ⟨ρ, h6.c (fun a b z => by rw [ek]; exact z) (fun a b _ => er a b) (fun a b q1 q2 => e1 _ _ (by omega)) (fun a b q1 q2 => e1 _ _ (by omega))⟩, by rw [ek]; omega⟩
end Z5
