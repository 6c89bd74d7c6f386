-- the class: plain bytes, a whole file
theorem rdl_im {fm : Nat} {t : Nat → Int32} {n : Nat} : ∀ f p (im im' : Nat → Int32) ct, (∀ j, j < 256 → im j = im' j) → (rdl fm t n f p im ct).1 = (rdl fm t n f p im' ct).1 ∧ (rdl fm t n f p im ct).2.1 = (rdl fm t n f p im' ct).2.1 ∧ (rdl fm t n f p im ct).2.2.2 = (rdl fm t n f p im' ct).2.2.2 ∧ ∀ j, j < 256 → (rdl fm t n f p im ct).2.2.1 j = (rdl fm t n f p im' ct).2.2.1 j
  | 0, p, im, im', ct, h => ⟨rfl, rfl, rfl, h⟩
  | f + 1, p, im, im', ct, h => by
    have hU : ∀ r : Nat × Nat × Nat × Nat × Nat, ∀ j, j < 256 → imU t r im j = imU t r im' j := fun r j hj => by unfold imU; rw [h j hj]
    unfold rdl
    by_cases h1 : p < n
    · rw [if_pos h1, if_pos h1]
      by_cases h2 : p < lend t n p (eoln t n p)
      · rw [if_pos h2, if_pos h2]
        by_cases h3 : (lr fm t p (lend t n p (eoln t n p))).1 = 0
        · rw [if_pos h3, if_pos h3]
          by_cases h4 : (lr fm t p (lend t n p (eoln t n p))).2.1 = 2
          · rw [if_pos h4, if_pos h4]; exact ⟨rfl, rfl, rfl, hU _⟩
          · rw [if_neg h4, if_neg h4]; exact rdl_im f _ _ _ _ (hU _)
        · rw [if_neg h3, if_neg h3]; exact ⟨rfl, rfl, rfl, h⟩
      · rw [if_neg h2, if_neg h2]; exact rdl_im f _ _ _ _ h
    · rw [if_neg h1, if_neg h1]; exact ⟨rfl, rfl, rfl, h⟩
theorem fileS_im {fm : Nat} {t : Nat → Int32} {n : Nat} {im im' : Nat → Int32} (h : ∀ j, j < 256 → im j = im' j) : (fileS fm t n im).1 = (fileS fm t n im').1 ∧ (fileS fm t n im).2.1 = (fileS fm t n im').2.1 ∧ (fileS fm t n im).2.2.2 = (fileS fm t n im').2.2.2 ∧ ∀ j, j < 256 → (fileS fm t n im).2.2.1 j = (fileS fm t n im').2.2.1 j := by
  unfold fileS
  by_cases h0 : fm = 0
  · rw [if_pos h0, if_pos h0]
    by_cases h1 : n ≤ 256
    · rw [if_pos h1, if_pos h1]; exact ⟨rfl, rfl, rfl, fun j hj => by simp only; rw [h j hj]⟩
    · rw [if_neg h1, if_neg h1]; exact ⟨rfl, rfl, rfl, h⟩
  · rw [if_neg h0, if_neg h0]; exact rdl_im _ _ _ _ _ h
section G5
variable {x : JX} {h : JH} {n : Nat}
def spN (h : JH) (t : Nat → Int32) : Nat → JH
  | 0 => h
  | k + 1 => stg (spN h t k) k (t k)
theorem spN_2 (t : Nat → Int32) : ∀ k, (spN h t k).2 = h.2
  | 0 => rfl
  | k + 1 => spN_2 t k
theorem spN_o (t : Nat → Int32) {a b : Nat} (h1 : a ≠ 6) (h2 : ¬ (a = 5 ∧ b = 3)) : ∀ k, gi (spN h t k) a b = gi h a b
  | 0 => rfl
  | k + 1 => by rw [spN, stg_i, if_neg h2, if_neg (fun q => h1 q.1)]; exact spN_o t h1 h2 k
theorem spN_3 (t : Nat → Int32) : ∀ k, gi (spN h t k) 5 3 = gi h 5 3 + nI k
  | 0 => by rw [show nI 0 = 0 from rfl]; simp [spN]
  | k + 1 => by rw [spN, stg_i, if_pos ⟨rfl, rfl⟩, spN_3 t k, ← nI_1 k, Int32.add_assoc]
theorem spN_6 (t : Nat → Int32) (j : Nat) : ∀ k, gi (spN h t k) 6 j = if j < k then t j else gi h 6 j
  | 0 => by rw [if_neg (by omega)]; rfl
  | k + 1 => by
    rw [spN, stg_i, if_neg (by omega), spN_6 t j k]
    by_cases hj : j = k
    · rw [if_pos ⟨rfl, hj⟩, if_pos (by omega), hj]
    · rw [if_neg (fun q => hj q.2)]
      by_cases hc : j < k
      · rw [if_pos hc, if_pos (by omega)]
      · rw [if_neg hc, if_neg (by omega)]
theorem j_takePlain {t : Nat → Int32} (hK : Kin h) (hX : XR h) (hn : gi h 1 1 = nI n) (hn4 : n ≤ 400) (ht : gi h 2 = t) (h40 : gi h 4 0 = 0) (h53 : gi h 5 3 = 0) : JM x yX2_takePlain cX2_takePlain 2 none 2 0 0 [.ref 5] h (fun v g => v = none ∧ TsP (fileS 0 t n (gi h 6)) h g) := by
  refine JM_of [some (.ref 5), none] (by decide) (Nat.le_of_ble_eq_true rfl) rfl ?_
  refine J_aload_n (pq := 1) dX2_takePlain_0 rfl rfl (J_getA (pq := 4) dX2_takePlain_1 rfl f_X2_15 (by decide +kernel) (by first | exact hc0 | exact hd0 | exact hK.at rfl) (hX _ _ _ rfl) (J_virtF (pq := 7) dX2_takePlain_4 rfl (j_X6_size hK) rfl tg_X6_size l_X2_55 vi_X6_size (by first | exact hc0 | exact hd0 | exact hK.at rfl) ⟨by decide, rfl⟩ (Nat.le_of_ble_eq_true rfl) (Nat.zero_le _) (Nat.zero_le _) (Nat.le_of_ble_eq_true rfl) (J_sipush (pq := 10) dX2_takePlain_7 rfl c_sipush_256 (J_icmp_le (pq := 13) (tgt := 25) dX2_takePlain_10 rfl rfl (fun c => ?_) (fun c => ?_)))))
  · rw [hn, show (256 : Int32) = nI 256 from rfl, nI_leI (by omega) (by omega)] at c
    have hfs : fileS 0 t n (gi h 6) = (0, 0, fun j => if j < n then t j else gi h 6 j, n) := by unfold fileS; rw [if_pos rfl, if_pos c]
    rw [hfs]
    have hnn := c
    refine J_iconst (pq := 26) dX2_takePlain_25 rfl c_iconst_0 (J_istore_m 1 (pq := 27) dX2_takePlain_26 rfl rfl (Nat.le_of_ble_eq_true rfl) (Nat.le_of_ble_eq_true rfl) rfl (?_))
    refine J_loop (σ := Nat) (fun k => [some (.ref 5), some (.int (nI k))]) (fun _ => []) (fun k => spN h t k) (fun k => k ≤ n) (fun k => n - k) 0 rfl rfl rfl (Nat.zero_le _) (fun k hk ih => ?_)
    have e2 := spN_2 (h := h) t k
    have hK' : Kin (spN h t k) := hK.of2 e2
    have hX' : XR (spN h t k) := hX.of3 (by rw [e2])
    have gn : gi (spN h t k) 1 1 = nI n := by rw [spN_o t (by omega) (by omega)]; exact hn
    have gt : gi (spN h t k) 2 = t := by funext j; rw [spN_o t (by omega) (by omega) k, ht]
    refine J_iload_n (pq := 28) dX2_takePlain_27 rfl rfl (J_aload_n (pq := 29) dX2_takePlain_28 rfl rfl (J_getA (pq := 32) dX2_takePlain_29 rfl f_X2_15 (by decide +kernel) (hK'.at rfl) (hX' _ _ _ rfl) (J_virtF (pq := 35) dX2_takePlain_32 rfl (j_X6_size hK') rfl tg_X6_size l_X2_55 vi_X6_size (hK'.at rfl) ⟨by decide, rfl⟩ (Nat.le_of_ble_eq_true rfl) (Nat.zero_le _) (Nat.zero_le _) (Nat.le_of_ble_eq_true rfl) (J_icmp_ge (pq := 38) (tgt := 57) dX2_takePlain_35 rfl rfl (fun c => ?_) (fun c => ?_)))))
    · rw [gn, nI_leI (by omega) (by omega)] at c
      have hkn : k = n := by omega
      refine J_vret dX2_takePlain_57 rfl ?_
      refine ⟨rfl, ⟨e2, fun a b q1 q2 q3 => spN_o t q1 (by omega) k⟩, ?_, fun q => absurd rfl q, fun _ => ⟨spN_o t (by omega) (by omega) k, ?_, fun j => ?_⟩⟩
      · rw [spN_o t (by omega) (by omega), h40]; rfl
      · rw [spN_3, h53, hkn]; simp
      · rw [spN_6, hkn]
    · rw [gn, nI_leI (by omega) (by omega)] at c
      have hat := j_at (x := x) (k := k) hK' hX' gn hn4 (by omega)
      rw [gt, show tat t n k = t k from by unfold tat; rw [if_pos (by omega)]] at hat
      refine J_aload_n (pq := 39) dX2_takePlain_38 rfl rfl (J_iload_n (pq := 40) dX2_takePlain_39 rfl rfl (J_aload_n (pq := 41) dX2_takePlain_40 rfl rfl (J_getA (pq := 44) dX2_takePlain_41 rfl f_X2_15 (by decide +kernel) (hK'.at rfl) (hX' _ _ _ rfl) (J_iload_n (pq := 45) dX2_takePlain_44 rfl rfl (J_virtF (pq := 48) dX2_takePlain_45 rfl (hat) rfl tg_X6_at l_X2_65 vi_X6_at (hK'.at rfl) ⟨by decide, rfl⟩ (Nat.le_of_ble_eq_true rfl) (Nat.zero_le _) (Nat.zero_le _) (Nat.le_of_ble_eq_true rfl) (J_virtF (pq := 51) dX2_takePlain_48 rfl (j_stage hK' hX' (by omega)) rfl tg_X2_stage l_X2_69 vi_X2_stage (hK'.at rfl) ⟨by decide, rfl⟩ (Nat.le_of_ble_eq_true rfl) (Nat.zero_le _) (Nat.zero_le _) (Nat.le_of_ble_eq_true rfl) (J_iinc (pq := 54) dX2_takePlain_51 rfl c_iconst_1 rfl (Nat.le_of_ble_eq_true rfl) rfl (J_goto (tgt := 27) dX2_takePlain_54 rfl (?_)))))))))
      rw [nI_1]
      exact ih (k + 1) (by omega) (by omega)
  · rw [hn, show (256 : Int32) = nI 256 from rfl, nI_leI (by omega) (by omega)] at c
    have hfs : fileS 0 t n (gi h 6) = (5, 256, gi h 6, 0) := by unfold fileS; rw [if_pos rfl, if_neg c]
    rw [hfs]
    refine J_aload_n (pq := 14) dX2_takePlain_13 rfl rfl (J_getA (pq := 17) dX2_takePlain_14 rfl f_X2_19 (by decide +kernel) (by first | exact hc0 | exact hd0 | exact hK.at rfl) (hX _ _ _ rfl) (J_iconst (pq := 18) dX2_takePlain_17 rfl c_iconst_5 (J_sipush (pq := 21) dX2_takePlain_18 rfl c_sipush_256 (J_virtF (pq := 24) dX2_takePlain_21 rfl (j_mark hK) rfl tg_X1_mark l_X2_61 vi_X1_mark (by first | exact hc0 | exact hd0 | exact hK.at rfl) ⟨by decide, rfl⟩ (Nat.le_of_ble_eq_true rfl) (Nat.zero_le _) (Nat.zero_le _) (Nat.le_of_ble_eq_true rfl) (J_vret dX2_takePlain_24 rfl ?_)))))
    refine ⟨rfl, mark_r h _ _, ?_, fun _ => ?_, fun q => by simp at q⟩
    · rw [gi_si, if_neg (by omega), gi_si, if_pos ⟨rfl, rfl⟩]; rfl
    · rw [gi_si, if_pos ⟨rfl, rfl⟩]; rfl
/-- what a file leaves behind in the class -/
def FlP (R : Nat × Nat × (Nat → Int32) × Nat) (h g : JH) : Prop := g.2 = h.2 ∧ (∀ a b, a ≠ 3 → a ≠ 6 → ¬ (a = 4 ∧ b ≤ 1) → ¬ (a = 5 ∧ 3 ≤ b ∧ b ≤ 8) → gi g a b = gi h a b) ∧ gi g 4 0 = nI R.1 ∧ gi g 4 1 = (if R.1 = 0 then -1 else nI R.2.1) ∧ ∀ j, j < 256 → gi g 3 j = if R.1 = 0 then R.2.2.1 j else gi h 3 j
theorem j_readInto {fm : Nat} {fI : Int32} {t : Nat → Int32} (hfm : (fm = 0 ∧ fI = 0) ∨ (fm = 1 ∧ fI = 1) ∨ (fm = 2 ∧ fI = 2)) (hK : Kin h) (hX : XR h) (hn : gi h 1 1 = nI n) (hn4 : n ≤ 400) (ht : gi h 2 = t) (hby : ∀ j, j < 400 → 0 ≤ t j) : JM x yX2_readInto cX2_readInto 4 (some .int) 6 0 0 [.ref 5, .ref 3, .int fI] h (fun v g => v = some (.int (if (fileS fm t n (gi h 3)).1 = 0 then nI (fileS fm t n (gi h 3)).2.2.2 else -1)) ∧ FlP (fileS fm t n (gi h 3)) h g) := by
  refine JM_of [some (.ref 5), some (.ref 3), some (.int fI), none] (by decide) (Nat.le_of_ble_eq_true rfl) rfl ?_
  have hlt := fileS_lt fm t n (gi h 3)
  generalize hh0 : si (si (si (cpyN h 3 6 256) 4 0 0) 4 1 (-1)) 5 3 0 = h0
  have e2 : h0.2 = h.2 := by rw [← hh0]; rfl
  have o : ∀ a b, a ≠ 6 → ¬ (a = 4 ∧ b ≤ 1) → ¬ (a = 5 ∧ b = 3) → gi h0 a b = gi h a b := fun a b q1 q2 q3 => by
    rw [← hh0, gi_si, if_neg (by omega), gi_si, if_neg (by omega), gi_si, if_neg (by omega), gi_cpyN, if_neg (by omega)]
  have o6 : ∀ j, j < 256 → gi h0 6 j = gi h 3 j := fun j hj => by
    rw [← hh0, gi_si, if_neg (by omega), gi_si, if_neg (by omega), gi_si, if_neg (by omega), gi_cpyN, if_pos ⟨rfl, hj⟩]
  have o40 : gi h0 4 0 = 0 := by rw [← hh0]; simp [gi_si]
  have o41 : gi h0 4 1 = -1 := by rw [← hh0]; simp [gi_si]
  have o53 : gi h0 5 3 = 0 := by rw [← hh0]; simp [gi_si]
  have hK0 : Kin h0 := hK.of2 e2
  have hX0 : XR h0 := hX.of3 (by rw [e2])
  have hn0 : gi h0 1 1 = nI n := by rw [o _ _ (by omega) (by omega) (by omega)]; exact hn
  have ht0 : gi h0 2 = t := by rw [← ht]; funext j; exact o _ _ (by omega) (by omega) (by omega)
  have fin : ∀ g, TsP (fileS fm t n (gi h0 6)) h0 g → J x yX2_readInto cX2_readInto 4 (some .int) 6 0 0 (fun v g => v = some (.int (if (fileS fm t n (gi h 3)).1 = 0 then nI (fileS fm t n (gi h 3)).2.2.2 else -1)) ∧ FlP (fileS fm t n (gi h 3)) h g) 48 [some (.ref 5), some (.ref 3), some (.int fI), some (.int (nI 256))] [] g := fun g hT => by
    obtain ⟨i1, i2, i3, i4⟩ := fileS_im (fm := fm) (t := t) (n := n) o6
    obtain ⟨hF, y1, y2, y3⟩ := hT
    rw [i1] at y1 y2 y3
    rw [i2] at y2
    rw [i3] at y3
    have hKg : Kin g := hK0.of2 hF.1
    have hXg : XR g := hX0.of3 (by rw [hF.1])
    have og : ∀ a b, a ≠ 6 → ¬ (a = 4 ∧ b ≤ 1) → ¬ (a = 5 ∧ 3 ≤ b ∧ b ≤ 8) → gi g a b = gi h a b := fun a b q1 q2 q3 => by rw [hF.2 a b q1 q2 q3, o a b q1 q2 (by omega)]
    refine J_aload_n (pq := 49) dX2_readInto_48 rfl rfl (J_getA (pq := 52) dX2_readInto_49 rfl f_X2_19 (by decide +kernel) (hKg.at rfl) (hXg _ _ _ rfl) (J_virtF (pq := 55) dX2_readInto_52 rfl (j_isFault hKg) rfl tg_X1_isFault l_X2_51 vi_X1_isFault (hKg.at rfl) ⟨by decide, rfl⟩ (Nat.le_of_ble_eq_true rfl) (Nat.zero_le _) (Nat.zero_le _) (Nat.le_of_ble_eq_true rfl) (J_if_eq (pq := 58) (tgt := 60) dX2_readInto_55 rfl rfl (fun c => ?_) (fun c => ?_))))
    · rw [bi_0, decide_eq_false_iff_not, y1, show (0 : Int32) = nI 0 from rfl, nI_ltI (by omega) (by omega)] at c
      have h0' : (fileS fm t n (gi h 3)).1 = 0 := by omega
      obtain ⟨z1, z2, z3⟩ := y3 h0'
      refine J_aload_n (pq := 61) dX2_readInto_60 rfl rfl (J_getA (pq := 64) dX2_readInto_61 rfl f_X2_9 (by decide +kernel) (hKg.at rfl) (hXg _ _ _ rfl) (J_iconst (pq := 65) dX2_readInto_64 rfl c_iconst_0 (J_aload_n (pq := 66) dX2_readInto_65 rfl rfl (J_iconst (pq := 67) dX2_readInto_66 rfl c_iconst_0 (J_iload_n (pq := 68) dX2_readInto_67 rfl rfl (J_copy (pq := 71) dX2_readInto_68 rfl lc_X2_29 (hKg.at rfl) (hKg.at rfl) (by omega) (by omega) (by omega) (Nat.le_of_ble_eq_true rfl) (Nat.le_of_ble_eq_true rfl) (J_aload_n (pq := 72) dX2_readInto_71 rfl rfl (J_getI (pq := 75) dX2_readInto_72 rfl f_X2_40 jsI (hKg.at rfl) (J_iret dX2_readInto_75 rfl rfl ?_)))))))))
      refine ⟨?_, ?_, fun a b q1 q2 q3 q4 => ?_, ?_, ?_, fun j hj => ?_⟩
      · rw [if_pos h0', gi_cpyN, if_neg (by omega), z2]
      · exact hF.1.trans e2
      · rw [gi_cpyN, if_neg (by omega)]; exact og a b q2 q3 q4
      · rw [gi_cpyN, if_neg (by omega), y1]
      · rw [gi_cpyN, if_neg (by omega), z1, o41, if_pos h0']
      · rw [gi_cpyN, if_pos ⟨rfl, hj⟩, if_pos h0', z3, i4 j hj]
    · rw [bi_0, decide_eq_false_iff_not, Decidable.not_not, y1, show (0 : Int32) = nI 0 from rfl, nI_ltI (by omega) (by omega)] at c
      refine J_iconst (pq := 59) dX2_readInto_58 rfl c_iconst_m1 (J_iret dX2_readInto_59 rfl rfl ?_)
      refine ⟨by rw [if_neg (by omega)], hF.1.trans e2, fun a b q1 q2 q3 q4 => og a b q2 q3 q4, y1, by rw [if_neg (by omega)]; exact y2 (by omega), fun j hj => by rw [if_neg (by omega)]; exact og _ _ (by omega) (by omega) (by omega)⟩
  have hl3 : (kd h)[3]? = some (50, 256) := hK.at rfl
  refine J_aload_n (pq := 1) dX2_readInto_0 rfl rfl (J_alen (pq := 2) dX2_readInto_1 rfl hl3 (Or.inl rfl) rfl (J_sipush (pq := 5) dX2_readInto_2 rfl c_sipush_256 (J_statF (pq := 8) dX2_readInto_5 rfl (j_min (m := 256) (n := 256) (by omega) (by omega)) rfl tg_J9_min_7cf53 l_X2_23 st_J9_min_7cf53 (Nat.le_of_ble_eq_true rfl) (Nat.zero_le _) (Nat.zero_le _) (Nat.le_of_ble_eq_true rfl) (?_))))
  rw [show min 256 256 = 256 from rfl]
  refine J_istore_m 3 (pq := 9) dX2_readInto_8 rfl rfl (Nat.le_of_ble_eq_true rfl) (Nat.le_of_ble_eq_true rfl) rfl (J_aload_n (pq := 10) dX2_readInto_9 rfl rfl (J_iconst (pq := 11) dX2_readInto_10 rfl c_iconst_0 (J_aload_n (pq := 12) dX2_readInto_11 rfl rfl (J_getA (pq := 15) dX2_readInto_12 rfl f_X2_9 (by decide +kernel) (by first | exact hc0 | exact hd0 | exact hK.at rfl) (hX _ _ _ rfl) (J_iconst (pq := 16) dX2_readInto_15 rfl c_iconst_0 (J_iload_n (pq := 17) dX2_readInto_16 rfl rfl (J_copy (pq := 20) dX2_readInto_17 rfl lc_X2_29 (by first | exact hc0 | exact hd0 | exact hK.at rfl) (by first | exact hc0 | exact hd0 | exact hK.at rfl) (by omega) (by omega) (by omega) (Nat.le_of_ble_eq_true rfl) (Nat.le_of_ble_eq_true rfl) (?_))))))))
  have hKc : Kin (cpyN h 3 6 256) := hK
  have hXc : XR (cpyN h 3 6 256) := hX
  refine J_aload_n (pq := 21) dX2_readInto_20 rfl rfl (J_getA (pq := 24) dX2_readInto_21 rfl f_X2_19 (by decide +kernel) (hKc.at rfl) (hXc _ _ _ rfl) (J_virtF (pq := 27) dX2_readInto_24 rfl (j_start4 hKc) rfl tg_X1_start l_X2_35 vi_X1_start (hKc.at rfl) ⟨by decide, rfl⟩ (Nat.le_of_ble_eq_true rfl) (Nat.zero_le _) (Nat.zero_le _) (Nat.le_of_ble_eq_true rfl) (J_aload_n (pq := 28) dX2_readInto_27 rfl rfl (J_iconst (pq := 29) dX2_readInto_28 rfl c_iconst_0 (J_putI (pq := 32) dX2_readInto_29 rfl f_X2_40 (Or.inl rfl) (hKc.at rfl) (?_))))))
  refine J_eq (h' := h0) rfl rfl hh0 ?_
  refine J_iload_n (pq := 33) dX2_readInto_32 rfl rfl (J_if_ne (pq := 36) (tgt := 43) dX2_readInto_33 rfl rfl (fun c => ?_) (fun c => ?_))
  · have hfm' : (fm = 1 ∧ fI = 1) ∨ (fm = 2 ∧ fI = 2) := by
      rcases hfm with ⟨rfl, rfl⟩ | hfm
      · exact absurd rfl c
      · exact hfm
    have hfs : ∀ im, fileS fm t n im = rdl fm t n (n + 1) 0 im 0 := fun im => by unfold fileS; rw [if_neg (by omega)]
    refine J_aload_n (pq := 44) dX2_readInto_43 rfl rfl (J_iload_n (pq := 45) dX2_readInto_44 rfl rfl (J_virt (pq := 48) dX2_readInto_45 rfl (j_takeLines hfm' hK0 hX0 hn0 hn4 ht0 hby o40 o53) rfl tg_X2_takeLines l_X2_47 vi_X2_takeLines (hK0.at rfl) ⟨by decide, rfl⟩ (Nat.le_of_ble_eq_true rfl) (Nat.zero_le _) (Nat.zero_le _) (Nat.le_of_ble_eq_true rfl) (fun v g hq => ?_)))
    obtain ⟨rfl, hT⟩ := hq
    rw [← hfs] at hT
    exact fin g hT
  · have hfm0 : fm = 0 := by
      rcases hfm with ⟨rfl, rfl⟩ | ⟨rfl, rfl⟩ | ⟨rfl, rfl⟩
      · rfl
      · exact absurd c (by decide)
      · exact absurd c (by decide)
    subst hfm0
    refine J_aload_n (pq := 37) dX2_readInto_36 rfl rfl (J_virt (pq := 40) dX2_readInto_37 rfl (j_takePlain hK0 hX0 hn0 hn4 ht0 o40 o53) rfl tg_X2_takePlain l_X2_44 vi_X2_takePlain (hK0.at rfl) ⟨by decide, rfl⟩ (Nat.le_of_ble_eq_true rfl) (Nat.zero_le _) (Nat.zero_le _) (Nat.le_of_ble_eq_true rfl) (fun v g hq => ?_))
    obtain ⟨rfl, hT⟩ := hq
    refine J_goto (tgt := 48) dX2_readInto_40 rfl (?_)
    exact fin g hT
theorem j_X8_file_no {v : Int32} (hv : isin v 0 2 = false) : JF x yX8_file cX8_file 3 (some .int) 7 0 0 [.ref 0, .int v] h (some (.int (-1))) h := by
  refine JM_of [some (.ref 0), some (.int v), none] (by decide) (Nat.le_of_ble_eq_true rfl) rfl ?_
  refine J_iload_n (pq := 1) dX8_file_0 rfl rfl (J_iconst (pq := 2) dX8_file_1 rfl c_iconst_0 (J_iconst (pq := 3) dX8_file_2 rfl c_iconst_2 (J_statF (pq := 6) dX8_file_3 rfl (j_X8_isWithin) rfl tg_X8_isWithin l_X8_87 st_X8_isWithin (Nat.le_of_ble_eq_true rfl) (Nat.zero_le _) (Nat.zero_le _) (Nat.le_of_ble_eq_true rfl) (J_if_ne (pq := 9) (tgt := 11) dX8_file_6 rfl rfl (fun c => ?_) (fun c => ?_)))))
  · rw [hv] at c; exact absurd rfl c
  · refine J_iconst (pq := 10) dX8_file_9 rfl c_iconst_m1 (J_iret dX8_file_10 rfl rfl ?_)
    exact ⟨rfl, rfl⟩
/-- what a call of file leaves behind in the class -/
def FcP (R : Nat × Nat × (Nat → Int32) × Nat) (B : Nat) (h g : JH) : Prop := g.2 = h.2 ∧ (∀ a b, a ≠ 3 → a ≠ 6 → ¬ (a = 4 ∧ b ≤ 1) → ¬ (a = 5 ∧ 3 ≤ b ∧ b ≤ 8) → ¬ (a = 1 ∧ b = 1) → ¬ (a = 0 ∧ b = 10) → gi g a b = gi h a b) ∧ gi g 4 0 = nI R.1 ∧ gi g 4 1 = (if R.1 = 0 then -1 else nI R.2.1) ∧ (∀ j, j < 256 → gi g 3 j = if R.1 = 0 then R.2.2.1 j else gi h 3 j) ∧ gi g 1 1 = 0 ∧ gi g 0 10 = nI (if R.1 = 0 then B + R.2.2.2 else B)
theorem j_X8_file {fm B : Nat} {fI : Int32} {t : Nat → Int32} (hfm : (fm = 0 ∧ fI = 0) ∨ (fm = 1 ∧ fI = 1) ∨ (fm = 2 ∧ fI = 2)) (hK : Kin h) (hX : XR h) (hn : gi h 1 1 = nI n) (hn4 : n ≤ 400) (ht : gi h 2 = t) (hby : ∀ j, j < 400 → 0 ≤ t j) (hB : gi h 0 10 = nI B) (hB2 : B + (fileS fm t n (gi h 3)).2.2.2 < 2147483647) (hct : (fileS fm t n (gi h 3)).2.2.2 < 2147483647) : JM x yX8_file cX8_file 3 (some .int) 7 0 0 [.ref 0, .int fI] h (fun v g => v = some (.int (if (fileS fm t n (gi h 3)).1 = 0 then nI (fileS fm t n (gi h 3)).2.2.2 else -1)) ∧ FcP (fileS fm t n (gi h 3)) B h g) := by
  refine JM_of [some (.ref 0), some (.int fI), none] (by decide) (Nat.le_of_ble_eq_true rfl) rfl ?_
  have hin : isin fI 0 2 = true := by rcases hfm with ⟨-, rfl⟩ | ⟨-, rfl⟩ | ⟨-, rfl⟩ <;> decide
  refine J_iload_n (pq := 1) dX8_file_0 rfl rfl (J_iconst (pq := 2) dX8_file_1 rfl c_iconst_0 (J_iconst (pq := 3) dX8_file_2 rfl c_iconst_2 (J_statF (pq := 6) dX8_file_3 rfl (j_X8_isWithin) rfl tg_X8_isWithin l_X8_87 st_X8_isWithin (Nat.le_of_ble_eq_true rfl) (Nat.zero_le _) (Nat.zero_le _) (Nat.le_of_ble_eq_true rfl) (J_if_ne (pq := 9) (tgt := 11) dX8_file_6 rfl rfl (fun c => ?_) (fun c => ?_)))))
  rotate_left
  · rw [hin] at c; exact absurd c (by decide)
  refine J_aload_n (pq := 12) dX8_file_11 rfl rfl (J_getA (pq := 15) dX8_file_12 rfl f_X8_32 (by decide +kernel) (by first | exact hc0 | exact hd0 | exact hK.at rfl) (hX _ _ _ rfl) (J_aload_n (pq := 16) dX8_file_15 rfl rfl (J_getA (pq := 19) dX8_file_16 rfl f_X8_16 (by decide +kernel) (by first | exact hc0 | exact hd0 | exact hK.at rfl) (hX _ _ _ rfl) (J_iload_n (pq := 20) dX8_file_19 rfl rfl (J_virt (pq := 23) dX8_file_20 rfl (j_readInto hfm hK hX hn hn4 ht hby) rfl tg_X2_readInto l_X8_91 vi_X2_readInto (by first | exact hc0 | exact hd0 | exact hK.at rfl) ⟨by decide, rfl⟩ (Nat.le_of_ble_eq_true rfl) (Nat.zero_le _) (Nat.zero_le _) (Nat.le_of_ble_eq_true rfl) (fun v g hq => ?_))))))
  obtain ⟨rfl, hP⟩ := hq
  obtain ⟨e2, o, p40, p41, p3⟩ := hP
  generalize fileS fm t n (gi h 3) = R at *
  have hKg : Kin g := hK.of2 e2
  have hXg : XR g := hX.of3 (by rw [e2])
  have g11 : gi g 1 1 = nI n := by rw [o _ _ (by omega) (by omega) (by omega) (by omega)]; exact hn
  have hc0 : isin 0 0 (gi g 1 1) = true := by rw [g11]; exact (isK (by omega)).mpr ⟨0, by omega, rfl⟩
  refine J_istore_m 2 (pq := 24) dX8_file_23 rfl rfl (Nat.le_of_ble_eq_true rfl) (Nat.le_of_ble_eq_true rfl) rfl (J_aload_n (pq := 25) dX8_file_24 rfl rfl (J_getA (pq := 28) dX8_file_25 rfl f_X8_10 (by decide +kernel) (hKg.at rfl) (hXg _ _ _ rfl) (J_iconst (pq := 29) dX8_file_28 rfl c_iconst_0 (J_virtF (pq := 32) dX8_file_29 rfl (j_X6_cutTo hKg) rfl tg_X6_cutTo l_X8_83 vi_X6_cutTo (hKg.at rfl) ⟨by decide, rfl⟩ (Nat.le_of_ble_eq_true rfl) (Nat.zero_le _) (Nat.zero_le _) (Nat.le_of_ble_eq_true rfl) (?_)))))
  rw [if_pos hc0]
  have hK1 : Kin (si g 1 1 0) := hKg
  have gB : gi (si g 1 1 0) 0 10 = nI B := by rw [gi_si, if_neg (by omega), o _ _ (by omega) (by omega) (by omega) (by omega)]; exact hB
  refine J_pop (pq := 33) dX8_file_32 rfl rfl (J_iload_n (pq := 34) dX8_file_33 rfl rfl (J_iconst (pq := 35) dX8_file_34 rfl c_iconst_m1 (J_icmp_eq (pq := 38) (tgt := 57) dX8_file_35 rfl rfl (fun c => ?_) (fun c => ?_))))
  · have h0 : R.1 ≠ 0 := fun q => by
      rw [if_pos q] at c
      have : (nI R.2.2.2).toInt = (-1 : Int32).toInt := by rw [c]
      rw [nI_toInt (by omega)] at this
      simp at this
    refine J_iload_n (pq := 58) dX8_file_57 rfl rfl (J_iret dX8_file_58 rfl rfl ?_)
    refine ⟨rfl, e2, fun a b q1 q2 q3 q4 q5 q6 => by rw [gi_si, if_neg q5]; exact o a b q1 q2 q3 q4, ?_, ?_, fun j hj => ?_, ?_, ?_⟩
    · rw [gi_si, if_neg (by omega)]; exact p40
    · rw [gi_si, if_neg (by omega)]; exact p41
    · rw [gi_si, if_neg (by omega)]; exact p3 j hj
    · rw [gi_si, if_pos ⟨rfl, rfl⟩]
    · rw [gB, if_neg h0]
  · have h0 : R.1 = 0 := Decidable.byContradiction fun q => by rw [if_neg q] at c; exact c rfl
    rw [if_pos h0]
    refine J_aload_n (pq := 39) dX8_file_38 rfl rfl (J_ldc2 (pq := 42) dX8_file_39 rfl k_X8_95 (J_aload_n (pq := 43) dX8_file_42 rfl rfl (J_getI (pq := 46) dX8_file_43 rfl f_X8_97 jsI (hK1.at rfl) (?_))))
    rw [gB]
    refine J_i2l (pq := 47) dX8_file_46 rfl (J_iload_n (pq := 48) dX8_file_47 rfl rfl (J_i2l (pq := 49) dX8_file_48 rfl (J_ladd (pq := 50) dX8_file_49 rfl (?_))))
    rw [nI_l (show B < 2 ^ 31 by omega), nI_l (by omega), lN_add]
    refine J_statF (pq := 53) dX8_file_50 rfl (j_minL (m := 2147483647) (by omega) (by omega)) rfl tg_J9_min_f86c9 l_X8_101 st_J9_min_f86c9 (Nat.le_of_ble_eq_true rfl) (Nat.zero_le _) (Nat.zero_le _) (Nat.le_of_ble_eq_true rfl) (J_l2i (pq := 54) dX8_file_53 rfl (?_))
    rw [lN_i, show min 2147483647 (B + R.2.2.2) = B + R.2.2.2 by omega]
    refine J_putI (pq := 57) dX8_file_54 rfl f_X8_97 (Or.inl rfl) (hK1.at rfl) (J_iload_n (pq := 58) dX8_file_57 rfl rfl (J_iret dX8_file_58 rfl rfl ?_))
    refine ⟨rfl, e2, fun a b q1 q2 q3 q4 q5 q6 => by rw [gi_si, if_neg q6, gi_si, if_neg q5]; exact o a b q1 q2 q3 q4, ?_, ?_, fun j hj => ?_, ?_, ?_⟩
    · rw [gi_si, if_neg (by omega), gi_si, if_neg (by omega)]; exact p40
    · rw [gi_si, if_neg (by omega), gi_si, if_neg (by omega)]; exact p41
    · rw [gi_si, if_neg (by omega), gi_si, if_neg (by omega)]; exact p3 j hj
    · rw [gi_si, if_neg (by omega), gi_si, if_pos ⟨rfl, rfl⟩]
    · rw [gi_si, if_pos ⟨rfl, rfl⟩, if_pos h0]
end G5
