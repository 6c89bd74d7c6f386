-- the class: a line is taken, then all lines
section G3
variable {x : JX} {h : JH} {n : Nat}
/-- what a line leaves behind in the class -/
def TlP (t : Nat → Int32) (r : Nat × Nat × Nat × Nat × Nat) (p : Nat) (h g : JH) : Prop := RdX h g ∧ (r.1 ≠ 0 → gi g 4 0 = nI r.1 ∧ gi g 4 1 = nI p ∧ gi g 5 4 = gi h 5 4) ∧ (r.1 = 0 → gi g 4 0 = gi h 4 0 ∧ gi g 4 1 = gi h 4 1 ∧ gi g 5 4 = (if r.2.1 = 2 then 1 else gi h 5 4) ∧ gi g 5 3 = gi h 5 3 + nI r.2.2.2.1 ∧ ∀ j, gi g 6 j = imU t r (gi h 6) j)
theorem TlP_f {t : Nat → Int32} {p k : Nat} {g : JH} (hL : LnX h g) (hk : k ≠ 0) : TlP t (k, 0, 0, 0, 0) p h (si (si g 4 0 (nI k)) 4 1 (nI p)) := by
  refine ⟨hL.rd.tr (mark_r g _ _), fun _ => ⟨?_, ?_, ?_⟩, fun q => absurd q hk⟩
  · rw [gi_si, if_neg (by omega), gi_si, if_pos ⟨rfl, rfl⟩]
  · rw [gi_si, if_pos ⟨rfl, rfl⟩]
  · rw [gi_si, if_neg (by omega), gi_si, if_neg (by omega)]; exact hL.2 5 4 (by omega)
theorem imU_0 (t : Nat → Int32) (k : Nat) (im : Nat → Int32) (j : Nat) : imU t (0, k, 0, 0, 0) im j = im j := by
  unfold imU; rw [if_neg (by simp)]
/-- from the looking at the line's kind on -/
theorem tl_104 {p e K A D N : Nat} {fI : Int32} {v4 : Option Value} {t : Nat → Int32} {g : JH} (hK : Kin h) (hX : XR h) (hn : gi h 1 1 = nI n) (hn4 : n ≤ 400) (ht : gi h 2 = t) (hL : LnX h g) (h5 : gi g 5 5 = nI K) (hK2 : K ≤ 2) (h6 : gi g 5 6 = nI A) (h7 : gi g 5 7 = nI D) (h8 : gi g 5 8 = nI N) (hA : A < 100000) (hN : N ≤ 256) (hD : D + 2 * N ≤ n) (hd : ∀ j, D ≤ j → j < D + 2 * N → isdig (t j) = true) :
    J x yX2_takeLine cX2_takeLine 5 none 4 0 0 (fun v g' => v = none ∧ TlP t (if K = 2 then (0, 2, 0, 0, 0) else if K = 0 then (if 0 < N ∧ 256 < A + N then (3, 0, 0, 0, 0) else (0, 0, A, N, D)) else (0, 1, 0, 0, 0)) p h g') 104 [some (.ref 5), some (.int fI), some (.int (nI p)), some (.int (nI e)), v4] [] g := by
  have hKg : Kin g := hK.of2 hL.1
  have hXg : XR g := hX.of3 (by rw [hL.1])
  have o : ∀ a b, ¬ (a = 5 ∧ 5 ≤ b ∧ b ≤ 8) → gi g a b = gi h a b := hL.2
  refine J_aload_n (pq := 105) dX2_takeLine_104 rfl rfl (J_getI (pq := 108) dX2_takeLine_105 rfl f_X2_93 jsI (hKg.at rfl) (J_iconst (pq := 109) dX2_takeLine_108 rfl c_iconst_2 (J_icmp_ne (pq := 112) (tgt := 120) dX2_takeLine_109 rfl rfl (fun c => ?_) (fun c => ?_))))
  · rw [h5, show (2 : Int32) = nI 2 from rfl, nI_eq (by omega) (by omega)] at c
    rw [if_neg c]
    refine J_aload_n (pq := 121) dX2_takeLine_120 rfl rfl (J_getI (pq := 124) dX2_takeLine_121 rfl f_X2_93 jsI (hKg.at rfl) (J_if_ne (pq := 127) (tgt := 132) dX2_takeLine_124 rfl rfl (fun c => ?_) (fun c => ?_)))
    · rw [h5, show (0 : Int32) = nI 0 from rfl, nI_eq (by omega) (by omega)] at c
      rw [if_neg c]
      refine J_vret dX2_takeLine_132 rfl ?_
      refine ⟨rfl, hL.rd, fun q => absurd rfl q, fun _ => ⟨o _ _ (by omega), o _ _ (by omega), by rw [if_neg (by simp)]; exact o _ _ (by omega), ?_, fun j => ?_⟩⟩
      · rw [o _ _ (by omega)]; show _ = _ + nI 0; rw [show nI 0 = 0 from rfl]; simp
      · rw [imU_0]; exact o _ _ (by omega)
    · rw [h5, show (0 : Int32) = nI 0 from rfl, nI_eq (by omega) (by omega)] at c
      rw [if_pos c]
      have hg1 : gi g 1 1 = nI n := by rw [o _ _ (by omega)]; exact hn
      have hg2 : gi g 2 = t := by rw [← ht]; funext j; exact o _ _ (by omega)
      refine J_aload_n (pq := 128) dX2_takeLine_127 rfl rfl (J_iload_n (pq := 129) dX2_takeLine_128 rfl rfl (J_virtF (pq := 132) dX2_takeLine_129 rfl (j_takeData hKg hXg hg1 hn4 hg2 h6 h7 h8 hA hN hD hd) rfl tg_X2_takeData l_X2_96 vi_X2_takeData (hKg.at rfl) ⟨by decide, rfl⟩ (Nat.le_of_ble_eq_true rfl) (Nat.zero_le _) (Nat.zero_le _) (Nat.le_of_ble_eq_true rfl) (?_)))
      refine J_vret dX2_takeLine_132 rfl ?_
      refine ⟨rfl, ?_⟩
      by_cases hb : 0 < N ∧ 256 < A + N
      · rw [if_pos hb, if_pos hb]
        exact TlP_f (k := 3) hL (by omega)
      · rw [if_neg hb, if_neg hb]
        refine ⟨hL.rd.tr (stN_r t A D N), fun q => absurd rfl q, fun _ => ⟨?_, ?_, ?_, ?_, fun j => ?_⟩⟩
        · rw [stN_o t A D (by omega) (by omega)]; exact o _ _ (by omega)
        · rw [stN_o t A D (by omega) (by omega)]; exact o _ _ (by omega)
        · rw [stN_o t A D (by omega) (by omega), if_neg (by simp)]; exact o _ _ (by omega)
        · rw [stN_3, o _ _ (by omega)]
        · rw [stN_6]
          unfold imU
          rw [o 6 j (by omega)]
  · rw [h5, show (2 : Int32) = nI 2 from rfl, nI_eq (by omega) (by omega)] at c
    rw [if_pos c]
    refine J_aload_n (pq := 113) dX2_takeLine_112 rfl rfl (J_iconst (pq := 114) dX2_takeLine_113 rfl c_iconst_1 (J_putZ (pq := 117) dX2_takeLine_114 rfl f_X2_72 (Or.inl rfl) (hKg.at rfl) (by first | exact bi_or _ | exact Or.inl rfl | exact Or.inr rfl | assumption) (J_goto (tgt := 132) dX2_takeLine_117 rfl (J_vret dX2_takeLine_132 rfl ?_))))
    refine ⟨rfl, hL.rd.tr ⟨rfl, fun a b q1 q2 q3 => by rw [gi_si, if_neg (by omega)]⟩, fun q => absurd rfl q, fun _ => ⟨?_, ?_, ?_, ?_, fun j => ?_⟩⟩
    · rw [gi_si, if_neg (by omega)]; exact o _ _ (by omega)
    · rw [gi_si, if_neg (by omega)]; exact o _ _ (by omega)
    · rw [gi_si, if_pos ⟨rfl, rfl⟩, if_pos rfl]
    · rw [gi_si, if_neg (by omega), o _ _ (by omega)]; show _ = _ + nI 0; rw [show nI 0 = 0 from rfl]; simp
    · rw [gi_si, if_neg (by omega), imU_0]; exact o _ _ (by omega)
theorem j_takeLine_e {p e : Nat} {fI : Int32} (he : e ≤ p) (hp : p < 100000) : JF x yX2_takeLine cX2_takeLine 5 none 4 0 0 [.ref 5, .int fI, .int (nI p), .int (nI e)] h none h := by
  refine JM_of [some (.ref 5), some (.int fI), some (.int (nI p)), some (.int (nI e)), none] (by decide) (Nat.le_of_ble_eq_true rfl) rfl ?_
  refine J_iload_n (pq := 1) dX2_takeLine_0 rfl rfl (J_iload_n (pq := 2) dX2_takeLine_1 rfl rfl (J_icmp_gt (pq := 5) (tgt := 6) dX2_takeLine_2 rfl rfl (fun c => ?_) (fun c => ?_)))
  · rw [nI_ltI (by omega) (by omega)] at c; omega
  · refine J_vret dX2_takeLine_5 rfl ?_
    exact ⟨rfl, rfl⟩
theorem j_takeLine1 {p e : Nat} {t : Nat → Int32} (hK : Kin h) (hX : XR h) (hn : gi h 1 1 = nI n) (hn4 : n ≤ 400) (ht : gi h 2 = t) (hpe : p < e) (he : e ≤ n) : JM x yX2_takeLine cX2_takeLine 5 none 4 0 0 [.ref 5, .int 1, .int (nI p), .int (nI e)] h (fun v g => v = none ∧ TlP t (lr1 t p e) p h g) := by
  subst ht
  refine JM_of [some (.ref 5), some (.int 1), some (.int (nI p)), some (.int (nI e)), none] (by decide) (Nat.le_of_ble_eq_true rfl) rfl ?_
  refine J_iload_n (pq := 1) dX2_takeLine_0 rfl rfl (J_iload_n (pq := 2) dX2_takeLine_1 rfl rfl (J_icmp_gt (pq := 5) (tgt := 6) dX2_takeLine_2 rfl rfl (fun c => ?_) (fun c => ?_)))
  rotate_left
  · rw [nI_ltI (by omega) (by omega)] at c; omega
  refine J_iload_n (pq := 7) dX2_takeLine_6 rfl rfl (J_iconst (pq := 8) dX2_takeLine_7 rfl c_iconst_1 (J_icmp_ne (pq := 11) (tgt := 15) dX2_takeLine_8 rfl rfl (fun c => ?_) (fun c => ?_)))
  · exact absurd rfl c
  refine J_iconst (pq := 12) dX2_takeLine_11 rfl c_iconst_1 (J_goto (tgt := 16) dX2_takeLine_12 rfl (J_istore (pq := 18) dX2_takeLine_16 rfl (Nat.le_of_ble_eq_true rfl) (Nat.le_of_ble_eq_true rfl) rfl (J_iload (pq := 20) dX2_takeLine_18 rfl rfl (J_if_eq (pq := 23) (tgt := 35) dX2_takeLine_20 rfl rfl (fun c => ?_) (fun c => ?_)))))
  · exact absurd c (by decide)
  refine J_aload_n (pq := 24) dX2_takeLine_23 rfl rfl (J_iload_n (pq := 25) dX2_takeLine_24 rfl rfl (J_iload_n (pq := 26) dX2_takeLine_25 rfl rfl (J_virt (pq := 29) dX2_takeLine_26 rfl (j_colon hK hX hn hn4 he hpe) rfl tg_X2_isColonLine l_X2_83 vi_X2_isColonLine (by first | exact hc0 | exact hd0 | exact hK.at rfl) ⟨by decide, rfl⟩ (Nat.le_of_ble_eq_true rfl) (Nat.zero_le _) (Nat.zero_le _) (Nat.le_of_ble_eq_true rfl) (fun v g hq => ?_))))
  obtain ⟨rfl, hL, hf⟩ := hq
  have hKg : Kin g := hK.of2 hL.1
  have hXg : XR g := hX.of3 (by rw [hL.1])
  have hn' : gi g 1 1 = nI n := by rw [hL.2 _ _ (by omega)]; exact hn
  have ht' : gi g 2 = gi h 2 := by funext j; exact hL.2 _ _ (by omega)
  refine J_if_eq (pq := 32) (tgt := 44) dX2_takeLine_29 rfl rfl (fun c => ?_) (fun c => ?_)
  · rw [bi_0] at c
    refine J_aload_n (pq := 45) dX2_takeLine_44 rfl rfl (J_getA (pq := 48) dX2_takeLine_45 rfl f_X2_19 (by decide +kernel) (hKg.at rfl) (hXg _ _ _ rfl) (J_iconst (pq := 49) dX2_takeLine_48 rfl c_iconst_1 (J_iload_n (pq := 50) dX2_takeLine_49 rfl rfl (J_virtF (pq := 53) dX2_takeLine_50 rfl (j_mark hKg) rfl tg_X1_mark l_X2_61 vi_X1_mark (hKg.at rfl) ⟨by decide, rfl⟩ (Nat.le_of_ble_eq_true rfl) (Nat.zero_le _) (Nat.zero_le _) (Nat.le_of_ble_eq_true rfl) (J_goto (tgt := 132) dX2_takeLine_53 rfl (J_vret dX2_takeLine_132 rfl ?_))))))
    refine ⟨rfl, ?_⟩
    rw [show lr1 (gi h 2) p e = (1, 0, 0, 0, 0) from by unfold lr1; rw [if_neg (by rw [c]; decide)]]
    exact TlP_f (k := 1) hL (by omega)
  rw [bi_0, Bool.not_eq_false] at c
  have cok := c
  obtain ⟨k1, k2, k3, k4, k5⟩ := (ok1_iff hpe).mp cok
  obtain ⟨f5, f6, f7, f8⟩ := hf cok
  have hal := alld_t.mp k3
  have pl : ∀ k, p + 1 ≤ k → k + 1 < e → pv (gi h 2) k < 256 := fun k h1 h2 => pv_lt (hal _ (by omega) (by omega)) (hal _ (by omega) (by omega))
  have p1 := pl (p + 1) (by omega) (by omega)
  have p3 := pl (p + 3) (by omega) (by omega)
  have p5 := pl (p + 5) (by omega) (by omega)
  have hee : p + 1 + 2 * ((e - p - 1) / 2) = e := by omega
  have hsm := psum_le (gi h 2) (p + 1) ((e - p - 1) / 2) (fun k hk => pv_all k3 (by omega))
  have hj := j_sum (x := x) (h := g) (a := p + 1) (m := (e - p - 1) / 2) hKg hXg hn' hn4 (by omega) (by rw [ht', hee]; exact k3)
  rw [hee, ht'] at hj
  refine J_goto (tgt := 56) dX2_takeLine_32 rfl (J_aload_n (pq := 57) dX2_takeLine_56 rfl rfl (J_iload_n (pq := 58) dX2_takeLine_57 rfl rfl (?_)))
  refine J_iload (pq := 60) dX2_takeLine_58 rfl rfl (J_if_eq (pq := 63) (tgt := 67) dX2_takeLine_60 rfl rfl (fun c => ?_) (fun c => ?_))
  · exact absurd c (by decide)
  refine J_iconst (pq := 64) dX2_takeLine_63 rfl c_iconst_1 (J_goto (tgt := 68) dX2_takeLine_64 rfl (J_iadd (pq := 69) dX2_takeLine_68 rfl (?_)))
  rw [nI_1]
  refine J_iload_n (pq := 70) dX2_takeLine_69 rfl rfl (J_virtF (pq := 73) dX2_takeLine_70 rfl (hj) rfl tg_X2_sumOf l_X2_90 vi_X2_sumOf (hKg.at rfl) ⟨by decide, rfl⟩ (Nat.le_of_ble_eq_true rfl) (Nat.zero_le _) (Nat.zero_le _) (Nat.le_of_ble_eq_true rfl) (J_sipush (pq := 76) dX2_takeLine_73 rfl c_sipush_256 (J_irem (pq := 77) dX2_takeLine_76 rfl (by decide) (?_))))
  rw [rem256 _ (by omega)]
  refine J_iload (pq := 79) dX2_takeLine_77 rfl rfl (J_if_eq (pq := 82) (tgt := 86) dX2_takeLine_79 rfl rfl (fun c => ?_) (fun c => ?_))
  · exact absurd c (by decide)
  refine J_iconst (pq := 83) dX2_takeLine_82 rfl c_iconst_0 (J_goto (tgt := 89) dX2_takeLine_83 rfl (J_icmp_eq (pq := 92) (tgt := 104) dX2_takeLine_89 rfl rfl (fun c => ?_) (fun c => ?_)))
  · rw [show (0 : Int32) = nI 0 from rfl, nI_eq (by omega) (by omega)] at c
    have hlr : lr1 (gi h 2) p e = (if (if pv (gi h 2) (p + 7) = 0 then 0 else 2) = 2 then (0, 2, 0, 0, 0) else if (if pv (gi h 2) (p + 7) = 0 then 0 else 2) = 0 then (if 0 < pv (gi h 2) (p + 1) ∧ 256 < 256 * pv (gi h 2) (p + 3) + pv (gi h 2) (p + 5) + pv (gi h 2) (p + 1) then (3, 0, 0, 0, 0) else (0, 0, 256 * pv (gi h 2) (p + 3) + pv (gi h 2) (p + 5), pv (gi h 2) (p + 1), p + 9)) else (0, 1, 0, 0, 0)) := by
      unfold lr1
      rw [if_pos cok, if_pos c]
      by_cases h7 : pv (gi h 2) (p + 7) = 0
      · rw [if_neg (by omega), if_pos h7]; simp
      · rw [if_pos (by omega), if_neg h7]; simp
    rw [hlr]
    exact tl_104 hK hX hn hn4 rfl hL f5 (by split <;> omega) f6 f7 f8 (by omega) (by omega) (by omega) (fun j h1 h2 => hal j (by omega) (by omega))
  · rw [show (0 : Int32) = nI 0 from rfl, nI_eq (by omega) (by omega)] at c
    refine J_aload_n (pq := 93) dX2_takeLine_92 rfl rfl (J_getA (pq := 96) dX2_takeLine_93 rfl f_X2_19 (by decide +kernel) (hKg.at rfl) (hXg _ _ _ rfl) (J_iconst (pq := 97) dX2_takeLine_96 rfl c_iconst_2 (J_iload_n (pq := 98) dX2_takeLine_97 rfl rfl (J_virtF (pq := 101) dX2_takeLine_98 rfl (j_mark hKg) rfl tg_X1_mark l_X2_61 vi_X1_mark (hKg.at rfl) ⟨by decide, rfl⟩ (Nat.le_of_ble_eq_true rfl) (Nat.zero_le _) (Nat.zero_le _) (Nat.le_of_ble_eq_true rfl) (J_goto (tgt := 132) dX2_takeLine_101 rfl (J_vret dX2_takeLine_132 rfl ?_))))))
    refine ⟨rfl, ?_⟩
    rw [show lr1 (gi h 2) p e = (2, 0, 0, 0, 0) from by unfold lr1; rw [if_pos cok, if_neg c]]
    exact TlP_f (k := 2) hL (by omega)
theorem j_takeLine2 {p e : Nat} {t : Nat → Int32} (hK : Kin h) (hX : XR h) (hn : gi h 1 1 = nI n) (hn4 : n ≤ 400) (ht : gi h 2 = t) (hpe : p < e) (he : e ≤ n) : JM x yX2_takeLine cX2_takeLine 5 none 4 0 0 [.ref 5, .int 2, .int (nI p), .int (nI e)] h (fun v g => v = none ∧ TlP t (lr2 t p e) p h g) := by
  subst ht
  refine JM_of [some (.ref 5), some (.int 2), some (.int (nI p)), some (.int (nI e)), none] (by decide) (Nat.le_of_ble_eq_true rfl) rfl ?_
  refine J_iload_n (pq := 1) dX2_takeLine_0 rfl rfl (J_iload_n (pq := 2) dX2_takeLine_1 rfl rfl (J_icmp_gt (pq := 5) (tgt := 6) dX2_takeLine_2 rfl rfl (fun c => ?_) (fun c => ?_)))
  rotate_left
  · rw [nI_ltI (by omega) (by omega)] at c; omega
  refine J_iload_n (pq := 7) dX2_takeLine_6 rfl rfl (J_iconst (pq := 8) dX2_takeLine_7 rfl c_iconst_1 (J_icmp_ne (pq := 11) (tgt := 15) dX2_takeLine_8 rfl rfl (fun c => ?_) (fun c => ?_)))
  rotate_left
  · exact absurd c (by decide)
  refine J_iconst (pq := 16) dX2_takeLine_15 rfl c_iconst_0 (J_istore (pq := 18) dX2_takeLine_16 rfl (Nat.le_of_ble_eq_true rfl) (Nat.le_of_ble_eq_true rfl) rfl (J_iload (pq := 20) dX2_takeLine_18 rfl rfl (J_if_eq (pq := 23) (tgt := 35) dX2_takeLine_20 rfl rfl (fun c => ?_) (fun c => ?_))))
  rotate_left
  · exact absurd rfl c
  refine J_aload_n (pq := 36) dX2_takeLine_35 rfl rfl (J_iload_n (pq := 37) dX2_takeLine_36 rfl rfl (J_iload_n (pq := 38) dX2_takeLine_37 rfl rfl (J_virt (pq := 41) dX2_takeLine_38 rfl (j_sline hK hX hn hn4 he hpe) rfl tg_X2_isSLine l_X2_87 vi_X2_isSLine (by first | exact hc0 | exact hd0 | exact hK.at rfl) ⟨by decide, rfl⟩ (Nat.le_of_ble_eq_true rfl) (Nat.zero_le _) (Nat.zero_le _) (Nat.le_of_ble_eq_true rfl) (fun v g hq => ?_))))
  obtain ⟨rfl, hL, hf⟩ := hq
  have hKg : Kin g := hK.of2 hL.1
  have hXg : XR g := hX.of3 (by rw [hL.1])
  have hn' : gi g 1 1 = nI n := by rw [hL.2 _ _ (by omega)]; exact hn
  have ht' : gi g 2 = gi h 2 := by funext j; exact hL.2 _ _ (by omega)
  refine J_if_ne (pq := 44) (tgt := 56) dX2_takeLine_41 rfl rfl (fun c => ?_) (fun c => ?_)
  rotate_left
  · rw [bi_0] at c
    refine J_aload_n (pq := 45) dX2_takeLine_44 rfl rfl (J_getA (pq := 48) dX2_takeLine_45 rfl f_X2_19 (by decide +kernel) (hKg.at rfl) (hXg _ _ _ rfl) (J_iconst (pq := 49) dX2_takeLine_48 rfl c_iconst_1 (J_iload_n (pq := 50) dX2_takeLine_49 rfl rfl (J_virtF (pq := 53) dX2_takeLine_50 rfl (j_mark hKg) rfl tg_X1_mark l_X2_61 vi_X1_mark (hKg.at rfl) ⟨by decide, rfl⟩ (Nat.le_of_ble_eq_true rfl) (Nat.zero_le _) (Nat.zero_le _) (Nat.le_of_ble_eq_true rfl) (J_goto (tgt := 132) dX2_takeLine_53 rfl (J_vret dX2_takeLine_132 rfl ?_))))))
    refine ⟨rfl, ?_⟩
    rw [show lr2 (gi h 2) p e = (1, 0, 0, 0, 0) from by unfold lr2; rw [if_neg (by rw [c]; decide)]]
    exact TlP_f (k := 1) hL (by omega)
  rw [bi_0, Bool.not_eq_false] at c
  have cok := c
  obtain ⟨k1, k2, k3, k4, k5⟩ := (ok2_iff hpe).mp cok
  obtain ⟨f5, f6, f7, f8⟩ := hf cok
  have hal := alld_t.mp k3
  have pl : ∀ k, p + 2 ≤ k → k + 1 < e → pv (gi h 2) k < 256 := fun k h1 h2 => pv_lt (hal _ (by omega) (by omega)) (hal _ (by omega) (by omega))
  have p1 := pl (p + 2) (by omega) (by omega)
  have p3 := pl (p + 4) (by omega) (by omega)
  have p5 := pl (p + 6) (by omega) (by omega)
  have hee : p + 2 + 2 * ((e - p - 2) / 2) = e := by omega
  have hsm := psum_le (gi h 2) (p + 2) ((e - p - 2) / 2) (fun k hk => pv_all k3 (by omega))
  have hj := j_sum (x := x) (h := g) (a := p + 2) (m := (e - p - 2) / 2) hKg hXg hn' hn4 (by omega) (by rw [ht', hee]; exact k3)
  rw [hee, ht'] at hj
  refine J_aload_n (pq := 57) dX2_takeLine_56 rfl rfl (J_iload_n (pq := 58) dX2_takeLine_57 rfl rfl (J_iload (pq := 60) dX2_takeLine_58 rfl rfl (J_if_eq (pq := 63) (tgt := 67) dX2_takeLine_60 rfl rfl (fun c => ?_) (fun c => ?_))))
  rotate_left
  · exact absurd rfl c
  refine J_iconst (pq := 68) dX2_takeLine_67 rfl c_iconst_2 (J_iadd (pq := 69) dX2_takeLine_68 rfl (?_))
  rw [show (2 : Int32) = nI 2 from rfl, nI_add]
  refine J_iload_n (pq := 70) dX2_takeLine_69 rfl rfl (J_virtF (pq := 73) dX2_takeLine_70 rfl (hj) rfl tg_X2_sumOf l_X2_90 vi_X2_sumOf (hKg.at rfl) ⟨by decide, rfl⟩ (Nat.le_of_ble_eq_true rfl) (Nat.zero_le _) (Nat.zero_le _) (Nat.le_of_ble_eq_true rfl) (J_sipush (pq := 76) dX2_takeLine_73 rfl c_sipush_256 (J_irem (pq := 77) dX2_takeLine_76 rfl (by decide) (?_))))
  rw [rem256 _ (by omega)]
  refine J_iload (pq := 79) dX2_takeLine_77 rfl rfl (J_if_eq (pq := 82) (tgt := 86) dX2_takeLine_79 rfl rfl (fun c => ?_) (fun c => ?_))
  rotate_left
  · exact absurd rfl c
  refine J_sipush (pq := 89) dX2_takeLine_86 rfl c_sipush_255 (J_icmp_eq (pq := 92) (tgt := 104) dX2_takeLine_89 rfl rfl (fun c => ?_) (fun c => ?_))
  · rw [show (255 : Int32) = nI 255 from rfl, nI_eq (by omega) (by omega)] at c
    have hlr : lr2 (gi h 2) p e = (if (if gi h 2 (p + 1) = 49 then 0 else if gi h 2 (p + 1) = 48 then 1 else 2) = 2 then (0, 2, 0, 0, 0) else if (if gi h 2 (p + 1) = 49 then 0 else if gi h 2 (p + 1) = 48 then 1 else 2) = 0 then (if 0 < pv (gi h 2) (p + 2) - 3 ∧ 256 < 256 * pv (gi h 2) (p + 4) + pv (gi h 2) (p + 6) + (pv (gi h 2) (p + 2) - 3) then (3, 0, 0, 0, 0) else (0, 0, 256 * pv (gi h 2) (p + 4) + pv (gi h 2) (p + 6), pv (gi h 2) (p + 2) - 3, p + 8)) else (0, 1, 0, 0, 0)) := by
      unfold lr2
      rw [if_pos cok, if_pos c]
      rcases k5 with z | z | z
      · rw [z]; simp
      · rw [z]; simp
      · rw [z.1]; simp
    rw [hlr]
    exact tl_104 hK hX hn hn4 rfl hL f5 (by repeat' split
                                            all_goals omega) f6 f7 f8 (by omega) (by omega) (by omega) (fun j h1 h2 => hal j (by omega) (by omega))
  · rw [show (255 : Int32) = nI 255 from rfl, nI_eq (by omega) (by omega)] at c
    refine J_aload_n (pq := 93) dX2_takeLine_92 rfl rfl (J_getA (pq := 96) dX2_takeLine_93 rfl f_X2_19 (by decide +kernel) (hKg.at rfl) (hXg _ _ _ rfl) (J_iconst (pq := 97) dX2_takeLine_96 rfl c_iconst_2 (J_iload_n (pq := 98) dX2_takeLine_97 rfl rfl (J_virtF (pq := 101) dX2_takeLine_98 rfl (j_mark hKg) rfl tg_X1_mark l_X2_61 vi_X1_mark (hKg.at rfl) ⟨by decide, rfl⟩ (Nat.le_of_ble_eq_true rfl) (Nat.zero_le _) (Nat.zero_le _) (Nat.le_of_ble_eq_true rfl) (J_goto (tgt := 132) dX2_takeLine_101 rfl (J_vret dX2_takeLine_132 rfl ?_))))))
    refine ⟨rfl, ?_⟩
    rw [show lr2 (gi h 2) p e = (2, 0, 0, 0, 0) from by unfold lr2; rw [if_pos cok, if_neg c]]
    exact TlP_f (k := 2) hL (by omega)
end G3
