-- both halves: asking a chip, wiping it, comparing, reading
theorem goodc_c {f f' : Nat → Bool} : ∀ n, (∀ b, b < n → f' b = f b) → goodc f' n = goodc f n
  | 0, _ => rfl
  | n + 1, e => by rw [goodc, goodc, goodc_c n (fun b hb => e b (by omega)), e n (by omega)]
theorem nthg_c {f f' : Nat → Bool} : ∀ n q b, (∀ c, c < b + n → f' c = f c) → nthg f' n q b = nthg f n q b
  | 0, _, _, _ => rfl
  | n + 1, q, b, e => by
    rw [nthg, nthg, e b (by omega), nthg_c n q (b + 1) (fun c hc => e c (by omega)), nthg_c n (q - 1) (b + 1) (fun c hc => e c (by omega))]
theorem lkf_c {f f' : Nat → Bool} : ∀ n p, (∀ c, c < p + n → f' c = f c) → lkf f' n p = lkf f n p
  | 0, _, _ => rfl
  | n + 1, p, e => by rw [lkf, lkf, e p (by omega), lkf_c n (p + 1) (fun c hc => e c (by omega))]
section Z7
variable {x : JX} {h g : JH} {L L' i q s : Nat}
theorem RC1.gd (hC : RC1 h i q s L) : goodc (mBad h i) s = goodc (xBad h q) s := goodc_c s (fun b hb => by unfold mBad xBad; rw [hC.2.2.2.2.2.2.1 b (by have := hC.1.2.2.2.2; omega)])
theorem RC1.adr (hC : RC1 h i q s L) (k : Nat) : mAdr h i s k = xAdr h q s k := by
  unfold mAdr xAdr
  rw [nthg_c s (k / 8) 0 (fun b hb => show mBad h i b = xBad h q b by unfold mBad xBad; rw [hC.2.2.2.2.2.2.1 b (by have := hC.1.2.2.2.2; omega)])]
theorem RC1.lk (hC : RC1 h i q s L) : lkf (mLack h i) 28 0 = lkf (xLack h q) 28 0 := lkf_c 28 0 (fun p hp => by unfold mLack xLack; rw [hC.2.2.2.2.2.2.2 p (by omega)])
theorem RC1.rch (hC : RC1 h i q s L) (f w : Nat) : mRch h i s f w = xRch h q s f w := by unfold mRch xRch; rw [hC.gd]
theorem xRch_a {f w k : Nat} (hk : k < xRch h q s f w) : xAdr h q s k < 8 * s := xAdr_lt (by unfold xRch at hk; omega)
theorem xRch_f {f w k : Nat} (hf : f ≤ 255) (hk : k < xRch h q s f w) : f + w * k ≤ 255 := fw_le hf (Nat.min_le_right (8 * goodc (xBad h q) s) ((255 - f) / w + 1)) hk
theorem RC1.wr (hC : RC1 h i q s L) (hI : RI h) {f w : Nat} (hf : f ≤ 255) : ∀ k, k ≤ xRch h q s f w → mWr h i s f w k = xWr h q s f w k
  | 0, _ => rfl
  | k + 1, hk => by
    have ha := xRch_a (h := h) (q := q) (s := s) (f := f) (w := w) (k := k) (by omega)
    have hff := xRch_f (h := h) (q := q) (s := s) (f := f) (w := w) (k := k) hf (by omega)
    obtain ⟨z1, z2, -⟩ := hC.2.2.2.2.2.1 _ ha
    rw [mWr, xWr, hC.wr hI hf k (by omega), hC.adr, ← z1, ← z2, ← (hI (f + w * k) (by omega)).1]
    unfold xRt
    simp only [Bool.and_eq_true, decide_eq_true_eq]
theorem RC1.rd (hC : RC1 h i q s L) (hI : RI h) {f w : Nat} {sc sm : Nat} (hsm : sm ≠ 3) (hs : ∀ a, a < 8 * s → gi h sc a = gi h sm (64 * i + a) ∧ ∃ b, b < 256 ∧ gi h sm (64 * i + a) = nI b) {h1 : JH} (e1 : ∀ a b, a ≠ 3 → gi h1 a b = gi h a b) : ∀ k, k ≤ xRch h q s f w → ∀ j, j < 256 → gi (xRd h sc q s f w k) 3 j = gi (mRd h1 sm i s f w k) 39 j ∧ ∃ b, b < 256 ∧ gi (mRd h1 sm i s f w k) 39 j = nI b
  | 0, _, j, hj => by
    show gi h 3 j = gi h1 39 j ∧ ∃ b, b < 256 ∧ gi h1 39 j = nI b
    rw [e1 39 j (by omega)]; exact hI j hj
  | k + 1, hk, j, hj => by
    have ha := xRch_a (h := h) (q := q) (s := s) (f := f) (w := w) (k := k) (by omega)
    have ead : mAdr h1 i s k = xAdr h q s k := by
      rw [← hC.adr]
      unfold mAdr
      rw [mBad_of (h := h) (fun b => e1 59 b (by omega))]
    have ih := hC.rd (f := f) (w := w) hI hsm hs e1 k (by omega) j hj
    rw [xRd, mRd, gi_si, gi_si, ead]
    by_cases hjf : j = f + w * k
    · have hx := hs _ ha
      rw [if_pos ⟨rfl, hjf⟩, if_pos ⟨rfl, hjf⟩, e1 sm _ hsm]; exact hx
    · rw [if_neg (fun z => hjf z.2), if_neg (fun z => hjf z.2)]; exact ih
theorem RC1.chipOf (hC : RC1 h i q s L) {n : Nat} (hn : n < 2147483648) : mChipOf h i s (nI n) = if n < 100 then xProp h q s (nI n) else xCell h q s (n / 100) (n % 100) := by
  have hC0 := hC
  obtain ⟨c1, c2, ⟨d1, d2, d3, d4, d5, d6, d7, d8⟩, -, ⟨m, m1, m2, m3⟩, c5, c6, c7⟩ := hC
  have hs8 := c1.2.2.2.2
  unfold mChipOf
  have l500 : (500 : Int32) = nI 500 := rfl
  have l100 : (100 : Int32) = nI 100 := rfl
  have l200 : (200 : Int32) = nI 200 := rfl
  have l300 : (300 : Int32) = nI 300 := rfl
  have l400 : (400 : Int32) = nI 400 := rfl
  have E5 : (500 : Int32) ≤ nI n ↔ 500 ≤ n := nI_leI (a := 500) (by omega) hn
  have E1 : (100 : Int32) ≤ nI n ↔ 100 ≤ n := nI_leI (a := 100) (by omega) hn
  have E2 : nI n < (200 : Int32) ↔ n < 200 := nI_ltI (b := 200) hn (by omega)
  have E3 : nI n < (300 : Int32) ↔ n < 300 := nI_ltI (b := 300) hn (by omega)
  have E4 : nI n < (400 : Int32) ↔ n < 400 := nI_ltI (b := 400) hn (by omega)
  have hrem : nI n - nI n / 100 * 100 = nI (n % 100) := by rw [l100, pk_rem hn (by omega) (by omega)]
  have hgl := goodc_le (xBad h q) s
  by_cases h5 : 500 ≤ n
  · have E6 : nI n - 500 < nI (8 * goodc (mBad h i) s) ↔ n - 500 < 8 * goodc (xBad h q) s := by rw [hC0.gd, l500, pk_sub h5]; exact nI_ltI (by omega) (by omega)
    rw [if_pos (E5.mpr h5), if_neg (show ¬ n < 100 by omega)]
    unfold xCell
    have e7 : nI (mAdr h i s (ix (nI n - 500))) = nI (xAdr h q s (n - 500)) := by rw [l500, pk_sub h5, ixn (by omega), hC0.adr]
    by_cases h8 : n - 500 < 8 * goodc (xBad h q) s
    · rw [if_pos (E6.mpr h8), e7, if_pos (by omega), if_pos (by omega), show n % 100 = n - 500 by omega]
    · rw [if_neg (fun z => h8 (E6.mp z))]
      by_cases h6 : n < 600
      · rw [if_pos (by omega), if_neg (by omega)]
      · rw [if_neg (by omega)]
        split
        · rw [if_neg (by omega), if_neg (by omega), if_neg (by omega), if_neg (by omega)]
        · rfl
  · rw [if_neg (fun z => h5 (E5.mp z))]
    by_cases h1 : 100 ≤ n
    · rw [if_pos (E1.mpr h1), if_neg (show ¬ n < 100 by omega), hrem, ixn (by omega)]
      unfold xCell
      have E7 : gi h 44 i ≤ nI (n % 100) ↔ 8 * s ≤ n % 100 := by rw [c2]; exact nI_leI (by omega) (by omega)
      rw [if_neg (show ¬ n / 100 = 5 by omega)]
      by_cases ha : n % 100 < 8 * s
      · obtain ⟨z1, z2, z3, z4, z5, z6, z7⟩ := c5 _ ha
        rw [if_neg (fun z => by have := E7.mp z; omega), if_pos ha]
        by_cases k1 : n < 200
        · rw [if_pos (E2.mpr k1), if_pos (show n / 100 = 1 by omega)]; exact z1.symm
        · rw [if_neg (fun z => k1 (E2.mp z)), if_neg (show ¬ n / 100 = 1 by omega)]
          by_cases k2 : n < 300
          · rw [if_pos (E3.mpr k2), if_pos (show n / 100 = 2 by omega)]; exact z2.symm
          · rw [if_neg (fun z => k2 (E3.mp z)), if_neg (show ¬ n / 100 = 2 by omega)]
            by_cases k3 : n < 400
            · rw [if_pos (E4.mpr k3), if_pos (show n / 100 = 3 by omega)]; exact z3.symm
            · rw [if_neg (fun z => k3 (E4.mp z)), if_neg (show ¬ n / 100 = 3 by omega), if_pos (show n / 100 = 4 by omega)]; exact z4.symm
      · rw [if_pos (E7.mpr (by omega)), if_neg ha]
    · rw [if_neg (fun z => h1 (E1.mp z)), if_pos (show n < 100 by omega)]
      unfold xProp
      rw [hC0.gd, hC0.lk, d8, m2, m3, lN_i, c2]
theorem z_chipOf {v w : Int32} (hR : REL h L) (hL : L ≤ 512) : GLU x yX8_chipOf cX8_chipOf 4 yX9_chipOf cX9_chipOf 5 .int 3 2 0 0 [.int v, .int w] h L := by
  have hR0 := hR
  obtain ⟨hK, hX, hM, -, -, -, -, ⟨nc, q, s, hC⟩, -, hl⟩ := hR
  have hW := hC.mw hK hM
  have c12 := hC.2.2.1
  by_cases hv : isin v 0 (nI nc - 1) = true
  · obtain ⟨i, hi, rfl⟩ := (isinN (by have := hC.1; omega)).mp hv
    obtain ⟨y1, y2, y3, y4⟩ := hC.2.2.2.1 i hi
    by_cases hw : w < 0
    · exact GLU.ro hR0 (j_X8_chipOf_neg hK hX hC.2.1 hC.1 hi y1 hw) (j_X9_chipOf_neg hK hw) rfl
    · obtain ⟨n, hn31, rfl⟩ := nI_of hw
      obtain ⟨m, m1, m2, m3⟩ := y4.2.2.2.2.1
      exact GLU.ro hR0 (j_X8_chipOf hK hX hC.2.1 hC.1 hi y1 y4.1 hn31) (j_X9_chipOf hW hi (i_nlt.mp hw) (by rw [m3, pk_lT (by omega)]; omega)) (y4.chipOf hn31)
  · rw [Bool.not_eq_true] at hv
    exact GLU.ro hR0 (j_X8_chipOf_no hK hX hC.2.1 hC.1 hv) (j_X9_chipOf_no hK (by rw [c12]; exact hv)) rfl
theorem isF {f : Int32} (hf : isin f 0 255 = true) : ∃ k, k ≤ 255 ∧ f = nI k := (isK (n := 255) (by omega)).mp hf
theorem isW {w : Int32} (hw : isin w 1 8 = true) : ∃ k, (1 ≤ k ∧ k ≤ 8) ∧ w = nI k := by
  have h0 := isin_t.mp hw
  have z1 : (1 : Int32).toInt = 1 := rfl
  have z8 : (8 : Int32).toInt = 8 := rfl
  rw [z1, z8] at h0
  obtain ⟨k, hk, rfl⟩ := (isK (v := w) (n := 8) (by omega)).mp (isin_t.mpr ⟨by rw [show (0 : Int32).toInt = 0 from rfl]; omega, by rw [nI_toInt (by omega)]; omega⟩)
  rw [nI_toInt (by omega)] at h0
  exact ⟨k, by omega, rfl⟩
theorem z_wrong {v f w : Int32} (hR : REL h L) : GLU x yX8_wrong cX8_wrong 8 yX9_wrong cX9_wrong 6 .int 3 3 0 0 [.int v, .int f, .int w] h L := by
  have hR0 := hR
  obtain ⟨hK, hX, hM, -, hI, -, -, ⟨nc, q, s, hC⟩, -, hl⟩ := hR
  have hW := hC.mw hK hM
  have c12 := hC.2.2.1
  by_cases ho : (isin v 0 (nI nc - 1) && (isin f 0 255 && isin w 1 8)) = true
  · obtain ⟨o1, o2⟩ := Bool.and_eq_true_iff.mp ho
    obtain ⟨o2, o3⟩ := Bool.and_eq_true_iff.mp o2
    obtain ⟨i, hi, rfl⟩ := (isinN (by have := hC.1; omega)).mp o1
    obtain ⟨f, hf, rfl⟩ := isF o2
    obtain ⟨w, hw, rfl⟩ := isW o3
    obtain ⟨y1, y2, y3, y4⟩ := hC.2.2.2.1 i hi
    refine GLU.ro hR0 (j_X8_wrong hK hX hC.2.1 hC.1 hi y1 y4.1 hf hw) (j_X9_wrong hW hi hf hw) ?_
    have e : min (8 * goodc (mBad h i) (s i)) ((255 - f) / w + 1) = xRch h (q i) (s i) f w := y4.rch f w
    rw [e, y4.wr hI hf _ (Nat.le_refl _)]
  · rw [Bool.not_eq_true] at ho
    exact GLU.ro hR0 (j_X8_wrong_no hK hX hC.2.1 hC.1 (fun i hi => (hC.2.2.2.1 i hi).1) ho) (j_X9_wrong_no hK (by rw [c12]; exact ho)) rfl
theorem z_read {v u f w : Int32} (hR : REL h L) : GLU x yX8_read cX8_read 9 yX9_read cX9_read 8 .int 3 3 0 0 [.int v, .int u, .int f, .int w] h L := by
  have hR0 := hR
  obtain ⟨hK, hX, hM, hT, hI, hF, hB, ⟨nc, q, s, hC⟩, -, hl⟩ := hR
  have hW := hC.mw hK hM
  have c12 := hC.2.2.1
  by_cases ho : (isin v 0 (nI nc - 1) && (isin f 0 255 && isin w 1 8)) = true
  · obtain ⟨o1, o2⟩ := Bool.and_eq_true_iff.mp ho
    obtain ⟨o2, o3⟩ := Bool.and_eq_true_iff.mp o2
    obtain ⟨i, hi, rfl⟩ := (isinN (by have := hC.1; omega)).mp o1
    obtain ⟨f, hf, rfl⟩ := isF o2
    obtain ⟨w, hw, rfl⟩ := isW o3
    obtain ⟨y1, y2, y3, y4⟩ := hC.2.2.2.1 i hi
    refine ⟨_, j_X8_read hK hX hC.2.1 hC.1 hi y1 y4.1 y2 hf hw, fun v' h1 qq => ?_⟩
    obtain ⟨rfl, rfl⟩ := qq
    have hsx : (if u = 0 then 54 else 55) ≠ 3 ∧ ∀ a, a < 8 * s i → gi h (if u = 0 then q i + 3 else q i + 4) a = gi h (if u = 0 then 54 else 55) (64 * i + a) ∧ ∃ b, b < 256 ∧ gi h (if u = 0 then 54 else 55) (64 * i + a) = nI b := by
      by_cases hu : u = 0
      · rw [if_pos hu, if_pos hu]; exact ⟨by omega, fun a ha => by obtain ⟨z1, z2, -, -, -, z6, z7⟩ := y4.2.2.2.2.2.1 _ ha; exact ⟨z1, z6⟩⟩
      · rw [if_neg hu, if_neg hu]; exact ⟨by omega, fun a ha => by obtain ⟨z1, z2, -, -, -, z6, z7⟩ := y4.2.2.2.2.2.1 _ ha; exact ⟨z2, z7⟩⟩
    generalize hsr : (if u = 0 then q i + 3 else q i + 4) = sr at hsx
    have e1 : ∀ a b, a ≠ 3 → gi (xRd h sr (q i) (s i) f w (xRch h (q i) (s i) f w)) a b = gi h a b := fun a b ha => xRd_gi _ _ _ _ ha b _
    have e2 := xRd_2 (h := h) (q := q i) sr (s i) f w (xRch h (q i) (s i) f w)
    generalize hg : xRd h sr (q i) (s i) f w (xRch h (q i) (s i) f w) = h1 at e1 e2
    have hW1 : MW h1 nc s := hW.of e2 (e1 _ _ (by omega)) (fun i _ => e1 _ _ (by omega))
    refine ⟨_, _, rfl, hW1.1, j_X9_read hW1 hi hf hw, fun v2 h2 q2 => ?_⟩
    obtain ⟨rfl, rfl⟩ := q2
    have e : min (8 * goodc (mBad h1 i) (s i)) ((255 - f) / w + 1) = xRch h (q i) (s i) f w := by
      rw [mBad_of (h := h) (fun b => e1 59 b (by omega))]; exact y4.rch f w
    rw [e]
    refine ⟨rfl, ?_⟩
    have hrd := y4.rd (f := f) (w := w) hI hsx.1 hsx.2 (h1 := h1) e1 (xRch h (q i) (s i) f w) (Nat.le_refl _)
    rw [hg] at hrd
    have o : ∀ a b, a ≠ 3 → a ≠ 39 → gi (mRd h1 (if u = 0 then 54 else 55) i (s i) f w (xRch h (q i) (s i) f w)) a b = gi h a b := fun a b p1 p2 => by rw [mRd_gi _ _ _ _ _ p2, e1 a b p1]
    have o2 : (mRd h1 (if u = 0 then 54 else 55) i (s i) f w (xRch h (q i) (s i) f w)).2 = h.2 := by rw [mRd_2, e2]
    have o3 := mRd_gi (h := h1) (if u = 0 then 54 else 55) i (s i) f w (a := 3) (by omega)
    refine hR0.upd (by omega) (by rw [o2]) (hT.c (o _ _ (by omega) (by omega)) (o _ _ (by omega) (by omega)) (fun j => o _ _ (by omega) (by omega)) (fun j => o _ _ (by omega) (by omega))) (fun j hj => ?_) (hF.c (o _ _ (by omega) (by omega)) (o _ _ (by omega) (by omega)) (o _ _ (by omega) (by omega)) (o _ _ (by omega) (by omega))) (hB.c (by omega) (o _ _ (by omega) (by omega)) (by show (mRd _ _ _ _ _ _ _).2.1 38 5 = _; rw [o2]; rfl)) (fun j _ => by show (mRd _ _ _ _ _ _ _).2.1 53 j = _; rw [o2]; rfl) (fun p q z => o _ _ (by omega) (by omega))
    rw [o3]
    exact hrd j hj
  · rw [Bool.not_eq_true] at ho
    exact GLU.ro hR0 (j_X8_read_no hK hX hC.2.1 hC.1 (fun i hi => (hC.2.2.2.1 i hi).1) ho) (j_X9_read_no hK (by rw [c12]; exact ho)) rfl
end Z7
