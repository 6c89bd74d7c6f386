-- the reference: chips
theorem ixn {k : Nat} (h : k < 2147483648) : ix (nI k) = k := nI_clamp h
theorem ia64 (i a : Nat) : (64 : Int32) * nI i + nI a = nI (64 * i + a) := by rw [show (64 : Int32) = nI 64 from rfl, pk_mul, nI_add]
theorem im64 (i : Nat) : (64 : Int32) * nI i = nI (64 * i) := by rw [show (64 : Int32) = nI 64 from rfl, pk_mul]
theorem ia8 (i a : Nat) : (8 : Int32) * nI i + nI a = nI (8 * i + a) := by rw [show (8 : Int32) = nI 8 from rfl, pk_mul, nI_add]
theorem ia28 (i a : Nat) : (28 : Int32) * nI i + nI a = nI (28 * i + a) := by rw [show (28 : Int32) = nI 28 from rfl, pk_mul, nI_add]
theorem id8 {k : Nat} (h : k < 2147483648) : nI k / 8 = nI (k / 8) := by rw [show (8 : Int32) = nI 8 from rfl, pk_div h (by omega) (by omega)]
theorem ir8 {k : Nat} (h : k < 2147483648) : nI k - nI k / 8 * 8 = nI (k % 8) := by rw [show (8 : Int32) = nI 8 from rfl, pk_rem h (by omega) (by omega)]
theorem nlit (n : Nat) (v : Int32) (h : v = nI n) : v = nI n := h
theorem vinN {t : Int32} {k n : Nat} (e : t = nI k) (h : k < n) (hn : n < 2147483648) : vp_in t n := by rw [e]; exact vp_in_nI h hn
theorem isinN {v : Int32} {n : Nat} (hn : n < 2147483648) : isin v 0 (nI n - 1) = true ↔ ∃ k, k < n ∧ v = nI k := by
  rw [isin_t]
  have h1 : (nI n - 1).toInt = (n : Int) - 1 := by
    rw [ti_sub] <;> rw [nI_toInt hn] <;> simp <;> omega
  rw [h1]
  constructor
  · intro ⟨a, b⟩
    refine ⟨v.toInt.toNat, by simp at a; omega, ?_⟩
    rw [ti_eq, nI_toInt (by simp at a; omega)]
    simp at a; omega
  · rintro ⟨k, hk, rfl⟩
    rw [nI_toInt (by omega)]
    simp; omega
/-- how many of the first n are not marked -/
def goodc (f : Nat → Bool) : Nat → Nat
  | 0 => 0
  | n + 1 => goodc f n + (if f n then 0 else 1)
theorem goodc_le (f : Nat → Bool) : ∀ n, goodc f n ≤ n
  | 0 => Nat.le_refl _
  | n + 1 => by have := goodc_le f n; simp only [goodc]; split <;> omega
/-- the place of the q-th that is not marked, from b on -/
def nthg (f : Nat → Bool) : Nat → Nat → Nat → Nat
  | 0, _, b => b
  | n + 1, q, b => if f b then nthg f n q (b + 1) else if q = 0 then b else nthg f n (q - 1) (b + 1)
/-- how many of those from b on, n of them, are not marked -/
def goodr (f : Nat → Bool) : Nat → Nat → Nat
  | 0, _ => 0
  | n + 1, b => (if f b then 0 else 1) + goodr f n (b + 1)
theorem goodr_s (f : Nat → Bool) : ∀ n b, goodr f (n + 1) b = goodr f n b + (if f (b + n) then 0 else 1)
  | 0, b => by simp [goodr]
  | n + 1, b => by
    have := goodr_s f n (b + 1)
    rw [goodr, this, goodr, show b + 1 + n = b + (n + 1) by omega]
    omega
theorem goodr_c (f : Nat → Bool) : ∀ n, goodr f n 0 = goodc f n
  | 0 => rfl
  | n + 1 => by rw [goodr_s, goodr_c f n, Nat.zero_add]; rfl
theorem nthg_lt (f : Nat → Bool) : ∀ n q b, q < goodr f n b → nthg f n q b < b + n ∧ f (nthg f n q b) = false
  | 0, q, b, h => by simp [goodr] at h
  | n + 1, q, b, h => by
    simp only [goodr] at h
    simp only [nthg]
    by_cases hf : f b = true
    · rw [if_pos hf] at h ⊢
      have := nthg_lt f n q (b + 1) (by omega)
      exact ⟨by omega, this.2⟩
    · rw [if_neg hf] at h ⊢
      by_cases hq : q = 0
      · rw [if_pos hq]
        exact ⟨by omega, by simpa using hf⟩
      · rw [if_neg hq]
        have := nthg_lt f n (q - 1) (b + 1) (by omega)
        exact ⟨by omega, this.2⟩
/-- the first that is marked, from p on, of n -/
def lkf (f : Nat → Bool) : Nat → Nat → Int32
  | 0, _ => -1
  | n + 1, p => if f p then nI p else lkf f n (p + 1)
def mLack (h : JH) (i p : Nat) : Bool := decide (¬ gi h 60 (28 * i + p) = 0)
/-- the reference's chips: how many, the blocks of each -/
def mBad (h : JH) (i b : Nat) : Bool := decide (¬ gi h 59 (8 * i + b) = 0)
def MW (h : JH) (c : Nat) (s : Nat → Nat) : Prop := Kin h ∧ MR h ∧ gi h 38 12 = nI c ∧ c ≤ 4 ∧ ∀ i, i < c → gi h 44 i = nI (8 * s i) ∧ 1 ≤ s i ∧ s i ≤ 8
section M2
variable {x : JX} {h : JH} {c : Nat} {s : Nat → Nat}
theorem j_X9_isChip {v : Int32} (hK : Kin h) : JF x yX9_isChip cX9_isChip 2 (some .boolean) 1 0 0 [.ref 38, .int v] h (some (.int (bi (isin v 0 (gi h 38 12 - 1))))) h := by
  refine JM_of [some (.ref 38), some (.int v)] (by decide) (Nat.le_of_ble_eq_true rfl) rfl ?_
  refine J_iload_n (pq := 1) dX9_isChip_0 rfl rfl (J_iconst (pq := 2) dX9_isChip_1 rfl c_iconst_0 (J_aload_n (pq := 3) dX9_isChip_2 rfl rfl (J_getI (pq := 6) dX9_isChip_3 rfl f_X9_196 jsI (hK.at rfl) (J_iconst (pq := 7) dX9_isChip_6 rfl c_iconst_1 (J_isub (pq := 8) dX9_isChip_7 rfl (J_statF (pq := 11) dX9_isChip_8 rfl (j_X9_isIn) rfl tg_X9_isIn l_X9_137 st_X9_isIn (Nat.le_of_ble_eq_true rfl) (Nat.zero_le _) (Nat.zero_le _) (Nat.le_of_ble_eq_true rfl) (J_iret dX9_isChip_11 rfl (by first | rfl | exact bi_nar _) ?_)))))))
  exact ⟨rfl, rfl⟩
theorem j_X9_isAddress {v a : Int32} (hW : MW h c s) : JF x yX9_isAddress cX9_isAddress 3 (some .boolean) 2 0 0 [.ref 38, .int v, .int a] h (some (.int (bi (isin v 0 (gi h 38 12 - 1) && isin a 0 (gi h 44 (ix v) - 1))))) h := by
  obtain ⟨hK, hR, hc, hc4, hs⟩ := hW
  refine JM_of [some (.ref 38), some (.int v), some (.int a)] (by decide) (Nat.le_of_ble_eq_true rfl) rfl ?_
  refine J_aload_n (pq := 1) dX9_isAddress_0 rfl rfl (J_iload_n (pq := 2) dX9_isAddress_1 rfl rfl (J_virtF (pq := 5) dX9_isAddress_2 rfl (j_X9_isChip hK) rfl tg_X9_isChip l_X9_199 vi_X9_isChip (hK.at rfl) ⟨by decide, rfl⟩ (Nat.le_of_ble_eq_true rfl) (Nat.zero_le _) (Nat.zero_le _) (Nat.le_of_ble_eq_true rfl) (J_if_eq (pq := 8) (tgt := 28) dX9_isAddress_5 rfl rfl (fun c => ?_) (fun c => ?_))))
  · rw [bi_0] at c
    refine J_iconst (pq := 29) dX9_isAddress_28 rfl c_iconst_0 (J_iret dX9_isAddress_29 rfl (by first | rfl | exact bi_nar _) ?_)
    exact ⟨by rw [c]; rfl, rfl⟩
  · rw [bi_0, Bool.not_eq_false] at c
    have hb : vp_in v 4 := by
      rw [hc, isinN (by omega)] at c
      obtain ⟨k, hk, rfl⟩ := c
      exact vp_in_nI (by omega) (by omega)
    have c5 := c
    refine J_iload_n (pq := 9) dX9_isAddress_8 rfl rfl (J_iconst (pq := 10) dX9_isAddress_9 rfl c_iconst_0 (J_aload_n (pq := 11) dX9_isAddress_10 rfl rfl (J_getA (pq := 14) dX9_isAddress_11 rfl f_X9_33 (by decide +kernel) (hK.at rfl) (hR _ _ rfl) (J_iload_n (pq := 15) dX9_isAddress_14 rfl rfl (J_iald (pq := 16) dX9_isAddress_15 rfl (hK.at rfl) (by assumption) (J_iconst (pq := 17) dX9_isAddress_16 rfl c_iconst_1 (J_isub (pq := 18) dX9_isAddress_17 rfl (J_statF (pq := 21) dX9_isAddress_18 rfl (j_X9_isIn) rfl tg_X9_isIn l_X9_137 st_X9_isIn (Nat.le_of_ble_eq_true rfl) (Nat.zero_le _) (Nat.zero_le _) (Nat.le_of_ble_eq_true rfl) (J_if_eq (pq := 24) (tgt := 28) dX9_isAddress_21 rfl rfl (fun c => ?_) (fun c => ?_))))))))))
    · rw [bi_0] at c
      refine J_iconst (pq := 29) dX9_isAddress_28 rfl c_iconst_0 (J_iret dX9_isAddress_29 rfl (by first | rfl | exact bi_nar _) ?_)
      exact ⟨by rw [c5, c]; rfl, rfl⟩
    · rw [bi_0, Bool.not_eq_false] at c
      refine J_iconst (pq := 25) dX9_isAddress_24 rfl c_iconst_1 (J_goto (tgt := 29) dX9_isAddress_25 rfl (J_iret dX9_isAddress_29 rfl (by first | rfl | exact bi_nar _) ?_))
      exact ⟨by rw [c5, c]; rfl, rfl⟩
theorem j_X9_isWrong {i a : Nat} {v : Int32} (hK : Kin h) (hR : MR h) (hi : 64 * i + a < 256) : JF x yX9_isWrong cX9_isWrong 4 (some .boolean) 0 0 0 [.ref 38, .int (nI i), .int (nI a), .int v] h (some (.int (bi (decide (¬ gi h 54 (64 * i + a) = v) || decide (¬ gi h 55 (64 * i + a) = v))))) h := by
  refine JM_of [some (.ref 38), some (.int (nI i)), some (.int (nI a)), some (.int v)] (by decide) (Nat.le_of_ble_eq_true rfl) rfl ?_
  have hb : vp_in ((64 : Int32) * nI i + nI a) 256 := vinN (ia64 i a) hi (by omega)
  have hx : ix ((64 : Int32) * nI i + nI a) = 64 * i + a := by rw [ia64, ixn (by omega)]
  refine J_aload_n (pq := 1) dX9_isWrong_0 rfl rfl (J_getA (pq := 4) dX9_isWrong_1 rfl f_X9_64 (by decide +kernel) (hK.at rfl) (hR _ _ rfl) (J_bipush (pq := 6) dX9_isWrong_4 rfl c_bipush_64 (J_iload_n (pq := 7) dX9_isWrong_6 rfl rfl (J_imul (pq := 8) dX9_isWrong_7 rfl (J_iload_n (pq := 9) dX9_isWrong_8 rfl rfl (J_iadd (pq := 10) dX9_isWrong_9 rfl (J_iald (pq := 11) dX9_isWrong_10 rfl (hK.at rfl) (by assumption) (J_iload_n (pq := 12) dX9_isWrong_11 rfl rfl (J_icmp_ne (pq := 15) (tgt := 30) dX9_isWrong_12 rfl rfl (fun c => ?_) (fun c => ?_))))))))))
  · rw [hx] at c
    refine J_iconst (pq := 31) dX9_isWrong_30 rfl c_iconst_1 (J_goto (tgt := 35) dX9_isWrong_31 rfl (J_iret dX9_isWrong_35 rfl (by first | rfl | exact bi_nar _) ?_))
    exact ⟨by simp [c, bi], rfl⟩
  · rw [hx] at c
    have c1 := c
    refine J_aload_n (pq := 16) dX9_isWrong_15 rfl rfl (J_getA (pq := 19) dX9_isWrong_16 rfl f_X9_67 (by decide +kernel) (hK.at rfl) (hR _ _ rfl) (J_bipush (pq := 21) dX9_isWrong_19 rfl c_bipush_64 (J_iload_n (pq := 22) dX9_isWrong_21 rfl rfl (J_imul (pq := 23) dX9_isWrong_22 rfl (J_iload_n (pq := 24) dX9_isWrong_23 rfl rfl (J_iadd (pq := 25) dX9_isWrong_24 rfl (J_iald (pq := 26) dX9_isWrong_25 rfl (hK.at rfl) (by assumption) (J_iload_n (pq := 27) dX9_isWrong_26 rfl rfl (J_icmp_eq (pq := 30) (tgt := 34) dX9_isWrong_27 rfl rfl (fun c => ?_) (fun c => ?_))))))))))
    · rw [hx] at c
      refine J_iconst (pq := 35) dX9_isWrong_34 rfl c_iconst_0 (J_iret dX9_isWrong_35 rfl (by first | rfl | exact bi_nar _) ?_)
      exact ⟨by simp [c1, c, bi], rfl⟩
    · rw [hx] at c
      refine J_iconst (pq := 31) dX9_isWrong_30 rfl c_iconst_1 (J_goto (tgt := 35) dX9_isWrong_31 rfl (J_iret dX9_isWrong_35 rfl (by first | rfl | exact bi_nar _) ?_))
      exact ⟨by simp [c1, c, bi], rfl⟩
theorem j_X9_lacking {i : Nat} (hK : Kin h) (hR : MR h) (hi : i < 4) : JF x yX9_lacking cX9_lacking 3 (some .int) 0 0 0 [.ref 38, .int (nI i)] h (some (.int (lkf (mLack h i) 28 0))) h := by
  refine JM_of [some (.ref 38), some (.int (nI i)), none] (by decide) (Nat.le_of_ble_eq_true rfl) rfl ?_
  refine J_iconst (pq := 1) dX9_lacking_0 rfl c_iconst_0 (J_istore_m 2 (pq := 2) dX9_lacking_1 rfl rfl (Nat.le_of_ble_eq_true rfl) (Nat.le_of_ble_eq_true rfl) rfl (?_))
  refine J_loop (σ := Nat) (fun k => [some (.ref 38), some (.int (nI i)), some (.int (nI k))]) (fun _ => []) (fun _ => h) (fun k => k ≤ 28 ∧ lkf (mLack h i) (28 - k) k = lkf (mLack h i) 28 0) (fun k => 28 - k) 0 rfl rfl rfl ⟨by omega, rfl⟩ (fun k hk ih => ?_)
  refine J_iload_n (pq := 3) dX9_lacking_2 rfl rfl (J_bipush (pq := 5) dX9_lacking_3 rfl c_bipush_28 (J_icmp_ge (pq := 8) (tgt := 30) dX9_lacking_5 rfl rfl (fun c => ?_) (fun c => ?_)))
  · rw [show (28 : Int32) = nI 28 from rfl, nI_leI (by omega) (by omega)] at c
    refine J_iconst (pq := 31) dX9_lacking_30 rfl c_iconst_m1 (J_iret dX9_lacking_31 rfl rfl ?_)
    refine ⟨?_, rfl⟩
    rw [← hk.2, show 28 - k = 0 by omega]
    rfl
  · rw [show (28 : Int32) = nI 28 from rfl, nI_leI (by omega) (by omega)] at c
    have hb : vp_in ((28 : Int32) * nI i + nI k) 112 := vinN (ia28 i k) (by omega) (by omega)
    have hx : ix ((28 : Int32) * nI i + nI k) = 28 * i + k := by rw [ia28, ixn (by omega)]
    have hk2 := hk.2
    rw [show 28 - k = (28 - (k + 1)) + 1 by omega, lkf] at hk2
    refine J_aload_n (pq := 9) dX9_lacking_8 rfl rfl (J_getA (pq := 12) dX9_lacking_9 rfl f_X9_82 (by decide +kernel) (hK.at rfl) (hR _ _ rfl) (J_bipush (pq := 14) dX9_lacking_12 rfl c_bipush_28 (J_iload_n (pq := 15) dX9_lacking_14 rfl rfl (J_imul (pq := 16) dX9_lacking_15 rfl (J_iload_n (pq := 17) dX9_lacking_16 rfl rfl (J_iadd (pq := 18) dX9_lacking_17 rfl (J_zald (pq := 19) dX9_lacking_18 rfl (hK.at rfl) (by assumption) (J_if_eq (pq := 22) (tgt := 24) dX9_lacking_19 rfl rfl (fun c => ?_) (fun c => ?_)))))))))
    · rw [hx] at c
      refine J_iinc (pq := 27) dX9_lacking_24 rfl c_iconst_1 rfl (Nat.le_of_ble_eq_true rfl) rfl (J_goto (tgt := 2) dX9_lacking_27 rfl (?_))
      rw [if_neg (by simp [mLack, c])] at hk2
      refine J_eq ?_ rfl rfl (ih (k + 1) ⟨by omega, hk2⟩ (by omega))
      simp [nI_1]
    · rw [hx] at c
      refine J_iload_n (pq := 23) dX9_lacking_22 rfl rfl (J_iret dX9_lacking_23 rfl rfl ?_)
      rw [if_pos (by simp [mLack, c])] at hk2
      exact ⟨by rw [← hk2], rfl⟩
theorem j_X9_logicals {i : Nat} (hW : MW h c s) (hi : i < c) : JF x yX9_logicals cX9_logicals 4 (some .int) 0 0 0 [.ref 38, .int (nI i)] h (some (.int (nI (8 * goodc (mBad h i) (s i))))) h := by
  obtain ⟨hK, hR, hc, hc4, hs⟩ := hW
  obtain ⟨hs1, hs2, hs3⟩ := hs i hi
  refine JM_of [some (.ref 38), some (.int (nI i)), none, none] (by decide) (Nat.le_of_ble_eq_true rfl) rfl ?_
  have hb1 : vp_in (nI i) 4 := vp_in_nI (by omega) (by omega)
  have hx1 : ix (nI i) = i := ixn (by omega)
  refine J_iconst (pq := 1) dX9_logicals_0 rfl c_iconst_0 (J_istore_m 2 (pq := 2) dX9_logicals_1 rfl rfl (Nat.le_of_ble_eq_true rfl) (Nat.le_of_ble_eq_true rfl) rfl (J_iconst (pq := 3) dX9_logicals_2 rfl c_iconst_0 (J_istore_m 3 (pq := 4) dX9_logicals_3 rfl rfl (Nat.le_of_ble_eq_true rfl) (Nat.le_of_ble_eq_true rfl) rfl (?_))))
  refine J_loop (σ := Nat) (fun k => [some (.ref 38), some (.int (nI i)), some (.int (nI (8 * goodc (mBad h i) k))), some (.int (nI k))]) (fun _ => []) (fun _ => h) (fun k => k ≤ s i) (fun k => s i - k) 0 rfl rfl rfl (by omega) (fun k hk ih => ?_)
  have hgl := goodc_le (mBad h i) k
  have hd8 : gi h 44 (ix (nI i)) / 8 = nI (s i) := by rw [hx1, hs1, id8 (by omega)]; congr 1; omega
  refine J_iload_n (pq := 5) dX9_logicals_4 rfl rfl (J_aload_n (pq := 6) dX9_logicals_5 rfl rfl (J_getA (pq := 9) dX9_logicals_6 rfl f_X9_33 (by decide +kernel) (hK.at rfl) (hR _ _ rfl) (J_iload_n (pq := 10) dX9_logicals_9 rfl rfl (J_iald (pq := 11) dX9_logicals_10 rfl (hK.at rfl) (by assumption) (J_bipush (pq := 13) dX9_logicals_11 rfl c_bipush_8 (J_idiv (pq := 14) dX9_logicals_13 rfl (by decide) (J_icmp_ge (pq := 17) (tgt := 46) dX9_logicals_14 rfl rfl (fun c => ?_) (fun c => ?_))))))))
  · rw [hd8, nI_leI (by omega) (by omega)] at c
    refine J_iload_n (pq := 47) dX9_logicals_46 rfl rfl (J_iret dX9_logicals_47 rfl rfl ?_)
    have : k = s i := by omega
    subst this
    exact ⟨rfl, rfl⟩
  · rw [hd8, nI_leI (by omega) (by omega)] at c
    have hb : vp_in ((8 : Int32) * nI i + nI k) 32 := vinN (ia8 i k) (by omega) (by omega)
    have hx : ix ((8 : Int32) * nI i + nI k) = 8 * i + k := by rw [ia8, ixn (by omega)]
    refine J_iload_n (pq := 18) dX9_logicals_17 rfl rfl (J_aload_n (pq := 19) dX9_logicals_18 rfl rfl (J_getA (pq := 22) dX9_logicals_19 rfl f_X9_79 (by decide +kernel) (hK.at rfl) (hR _ _ rfl) (J_bipush (pq := 24) dX9_logicals_22 rfl c_bipush_8 (J_iload_n (pq := 25) dX9_logicals_24 rfl rfl (J_imul (pq := 26) dX9_logicals_25 rfl (J_iload_n (pq := 27) dX9_logicals_26 rfl rfl (J_iadd (pq := 28) dX9_logicals_27 rfl (J_zald (pq := 29) dX9_logicals_28 rfl (hK.at rfl) (by assumption) (J_if_eq (pq := 32) (tgt := 36) dX9_logicals_29 rfl rfl (fun c => ?_) (fun c => ?_))))))))))
    · rw [hx] at c
      refine J_bipush (pq := 38) dX9_logicals_36 rfl c_bipush_8 (J_iadd (pq := 39) dX9_logicals_38 rfl (J_istore_m 2 (pq := 40) dX9_logicals_39 rfl rfl (Nat.le_of_ble_eq_true rfl) (Nat.le_of_ble_eq_true rfl) rfl (J_iinc (pq := 43) dX9_logicals_40 rfl c_iconst_1 rfl (Nat.le_of_ble_eq_true rfl) rfl (J_goto (tgt := 4) dX9_logicals_43 rfl (?_)))))
      refine J_eq ?_ rfl rfl (ih (k + 1) (by omega) (by omega))
      have : mBad h i k = false := by simp [mBad, c]
      simp only [goodc, this, nI_1]
      rw [show (8 : Int32) = nI 8 from rfl, nI_add]
      rfl
    · rw [hx] at c
      refine J_iconst (pq := 33) dX9_logicals_32 rfl c_iconst_0 (J_goto (tgt := 38) dX9_logicals_33 rfl (J_iadd (pq := 39) dX9_logicals_38 rfl (J_istore_m 2 (pq := 40) dX9_logicals_39 rfl rfl (Nat.le_of_ble_eq_true rfl) (Nat.le_of_ble_eq_true rfl) rfl (J_iinc (pq := 43) dX9_logicals_40 rfl c_iconst_1 rfl (Nat.le_of_ble_eq_true rfl) rfl (J_goto (tgt := 4) dX9_logicals_43 rfl (?_))))))
      refine J_eq ?_ rfl rfl (ih (k + 1) (by omega) (by omega))
      have : mBad h i k = true := by simp [mBad, c]
      simp only [goodc, this, nI_1]
      rw [show (0 : Int32) = nI 0 from rfl, nI_add]
      rfl
theorem j_X9_addressOf {i k : Nat} (hW : MW h c s) (hi : i < c) (hk : k < 8 * goodc (mBad h i) (s i)) : JF x yX9_addressOf cX9_addressOf 5 (some .int) 0 0 0 [.ref 38, .int (nI i), .int (nI k)] h (some (.int (nI (8 * nthg (mBad h i) (s i) (k / 8) 0 + k % 8)))) h := by
  obtain ⟨hK, hR, hc, hc4, hs⟩ := hW
  obtain ⟨hs1, hs2, hs3⟩ := hs i hi
  have hgl := goodc_le (mBad h i) (s i)
  refine JM_of [some (.ref 38), some (.int (nI i)), some (.int (nI k)), none, none] (by decide) (Nat.le_of_ble_eq_true rfl) rfl ?_
  refine J_iload_n (pq := 1) dX9_addressOf_0 rfl rfl (J_bipush (pq := 3) dX9_addressOf_1 rfl c_bipush_8 (J_idiv (pq := 4) dX9_addressOf_3 rfl (by decide) (J_istore_m 3 (pq := 5) dX9_addressOf_4 rfl rfl (Nat.le_of_ble_eq_true rfl) (Nat.le_of_ble_eq_true rfl) rfl (J_iconst (pq := 6) dX9_addressOf_5 rfl c_iconst_0 (J_istore (pq := 8) dX9_addressOf_6 rfl (Nat.le_of_ble_eq_true rfl) (Nat.le_of_ble_eq_true rfl) rfl (?_))))))
  refine J_loop (σ := Nat × Nat) (fun p => [some (.ref 38), some (.int (nI i)), some (.int (nI k)), some (.int (nI p.1)), some (.int (nI p.2))]) (fun _ => []) (fun _ => h) (fun p => p.2 ≤ s i ∧ p.1 < goodr (mBad h i) (s i - p.2) p.2 ∧ nthg (mBad h i) (s i - p.2) p.1 p.2 = nthg (mBad h i) (s i) (k / 8) 0) (fun p => s i - p.2) (k / 8, 0) (by rw [id8 (by omega)]; rfl) rfl rfl ⟨by simp, by simp only [Nat.sub_zero]; rw [goodr_c]; omega, by simp⟩ (fun p hp ih => ?_)
  obtain ⟨q, b⟩ := p
  obtain ⟨hp1, hp2, hp3⟩ := hp
  simp only at hp1 hp2 hp3
  have hbs : b < s i := by
    rcases Nat.lt_or_ge b (s i) with h1 | h1
    · exact h1
    · rw [show s i - b = 0 by omega] at hp2; simp [goodr] at hp2
  have hqs : q < 9 := by
    have : ∀ n b, goodr (mBad h i) n b ≤ n := by
      intro n
      induction n with
      | zero => intro b; simp [goodr]
      | succ n ih => intro b; have := ih (b + 1); simp only [goodr]; split <;> omega
    have := this (s i - b) b
    omega
  rw [show s i - b = (s i - (b + 1)) + 1 by omega] at hp2 hp3
  simp only [goodr] at hp2
  simp only [nthg] at hp3
  have hb : vp_in ((8 : Int32) * nI i + nI b) 32 := vinN (ia8 i b) (by omega) (by omega)
  have hx : ix ((8 : Int32) * nI i + nI b) = 8 * i + b := by rw [ia8, ixn (by omega)]
  refine J_aload_n (pq := 9) dX9_addressOf_8 rfl rfl (J_getA (pq := 12) dX9_addressOf_9 rfl f_X9_79 (by decide +kernel) (hK.at rfl) (hR _ _ rfl) (J_bipush (pq := 14) dX9_addressOf_12 rfl c_bipush_8 (J_iload_n (pq := 15) dX9_addressOf_14 rfl rfl (J_imul (pq := 16) dX9_addressOf_15 rfl (J_iload (pq := 18) dX9_addressOf_16 rfl rfl (J_iadd (pq := 19) dX9_addressOf_18 rfl (J_zald (pq := 20) dX9_addressOf_19 rfl (hK.at rfl) (by assumption) (J_if_ne (pq := 23) (tgt := 27) dX9_addressOf_20 rfl rfl (fun c => ?_) (fun c => ?_)))))))))
  · rw [hx] at c
    have hbad : mBad h i b = true := by simp [mBad, c]
    rw [if_pos hbad] at hp2 hp3
    refine J_iload_n (pq := 28) dX9_addressOf_27 rfl rfl (J_aload_n (pq := 29) dX9_addressOf_28 rfl rfl (J_getA (pq := 32) dX9_addressOf_29 rfl f_X9_79 (by decide +kernel) (hK.at rfl) (hR _ _ rfl) (J_bipush (pq := 34) dX9_addressOf_32 rfl c_bipush_8 (J_iload_n (pq := 35) dX9_addressOf_34 rfl rfl (J_imul (pq := 36) dX9_addressOf_35 rfl (J_iload (pq := 38) dX9_addressOf_36 rfl rfl (J_iadd (pq := 39) dX9_addressOf_38 rfl (J_zald (pq := 40) dX9_addressOf_39 rfl (hK.at rfl) (by assumption) (J_if_eq (pq := 43) (tgt := 47) dX9_addressOf_40 rfl rfl (fun c => ?_) (fun c => ?_))))))))))
    · rw [hx] at c; contradiction
    · refine J_iconst (pq := 44) dX9_addressOf_43 rfl c_iconst_0 (J_goto (tgt := 48) dX9_addressOf_44 rfl (J_isub (pq := 49) dX9_addressOf_48 rfl (J_istore_m 3 (pq := 50) dX9_addressOf_49 rfl rfl (Nat.le_of_ble_eq_true rfl) (Nat.le_of_ble_eq_true rfl) rfl (J_iinc (pq := 53) dX9_addressOf_50 rfl c_iconst_1 rfl (Nat.le_of_ble_eq_true rfl) rfl (J_goto (tgt := 8) dX9_addressOf_53 rfl (?_))))))
      refine J_eq ?_ rfl rfl (ih (q, b + 1) ⟨by simp only; omega, by simp only; omega, hp3⟩ (by simp only; omega))
      simp [nI_1, show nI q - 0 = nI q from by rw [show (0 : Int32) = nI 0 from rfl, pk_sub (by omega)]; rfl]
  · rw [hx] at c
    have hbad : mBad h i b = false := by simp [mBad, c]
    have c0 := c
    rw [if_neg (by rw [hbad]; decide)] at hp2 hp3
    refine J_iload_n (pq := 24) dX9_addressOf_23 rfl rfl (J_if_le (pq := 27) (tgt := 56) dX9_addressOf_24 rfl rfl (fun c => ?_) (fun c => ?_))
    · rw [show (0 : Int32) = nI 0 from rfl, nI_leI (by omega) (by omega)] at c
      refine J_bipush (pq := 58) dX9_addressOf_56 rfl c_bipush_8 (J_iload (pq := 60) dX9_addressOf_58 rfl rfl (J_imul (pq := 61) dX9_addressOf_60 rfl (J_iload_n (pq := 62) dX9_addressOf_61 rfl rfl (J_bipush (pq := 64) dX9_addressOf_62 rfl c_bipush_8 (J_irem (pq := 65) dX9_addressOf_64 rfl (by decide) (J_iadd (pq := 66) dX9_addressOf_65 rfl (J_iret dX9_addressOf_66 rfl rfl ?_)))))))
      rw [if_pos (by omega)] at hp3
      refine ⟨?_, rfl⟩
      rw [ir8 (by omega), ia8, ← hp3]
    · rw [show (0 : Int32) = nI 0 from rfl, nI_leI (by omega) (by omega)] at c
      rw [if_neg (by omega)] at hp3
      refine J_iload_n (pq := 28) dX9_addressOf_27 rfl rfl (J_aload_n (pq := 29) dX9_addressOf_28 rfl rfl (J_getA (pq := 32) dX9_addressOf_29 rfl f_X9_79 (by decide +kernel) (hK.at rfl) (hR _ _ rfl) (J_bipush (pq := 34) dX9_addressOf_32 rfl c_bipush_8 (J_iload_n (pq := 35) dX9_addressOf_34 rfl rfl (J_imul (pq := 36) dX9_addressOf_35 rfl (J_iload (pq := 38) dX9_addressOf_36 rfl rfl (J_iadd (pq := 39) dX9_addressOf_38 rfl (J_zald (pq := 40) dX9_addressOf_39 rfl (hK.at rfl) (by assumption) (J_if_eq (pq := 43) (tgt := 47) dX9_addressOf_40 rfl rfl (fun c => ?_) (fun c => ?_))))))))))
      · refine J_iconst (pq := 48) dX9_addressOf_47 rfl c_iconst_1 (J_isub (pq := 49) dX9_addressOf_48 rfl (J_istore_m 3 (pq := 50) dX9_addressOf_49 rfl rfl (Nat.le_of_ble_eq_true rfl) (Nat.le_of_ble_eq_true rfl) rfl (J_iinc (pq := 53) dX9_addressOf_50 rfl c_iconst_1 rfl (Nat.le_of_ble_eq_true rfl) rfl (J_goto (tgt := 8) dX9_addressOf_53 rfl (?_)))))
        refine J_eq ?_ rfl rfl (ih (q - 1, b + 1) ⟨by simp only; omega, by simp only; omega, hp3⟩ (by simp only; omega))
        simp [nI_1, show nI q - 1 = nI (q - 1) from by rw [show (1 : Int32) = nI 1 from rfl, pk_sub (by omega)]]
      · rw [hx] at c; contradiction
end M2
