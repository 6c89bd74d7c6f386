-- files: the pure words, and the reference's small methods
def isdig (v : Int32) : Bool := isin v 48 57 || isin v 65 70
def dg (v : Int32) : Int32 := if isin v 48 57 then v - 48 else if isin v 65 70 then v - 65 + 10 else -1
def dv (v : Int32) : Nat := (dg v).toInt.toNat
theorem dg_t {v : Int32} (h : isdig v = true) : dg v = nI (dv v) ∧ dv v < 16 := by
  unfold isdig at h
  have key : ∃ k : Nat, k < 16 ∧ dg v = nI k := by
    unfold dg
    by_cases h1 : isin v 48 57 = true
    · rw [if_pos h1]
      rw [isin_t] at h1
      simp at h1
      refine ⟨(v.toInt - 48).toNat, by omega, ?_⟩
      rw [ti_eq, nI_toInt (by omega), ti_sub (by simp; omega) (by simp; omega)]
      simp; omega
    · rw [if_neg h1]
      rw [Bool.not_eq_true] at h1
      rw [h1, Bool.false_or] at h
      rw [if_pos h]
      rw [isin_t] at h
      simp at h
      refine ⟨(v.toInt - 55).toNat, by omega, ?_⟩
      have e1 : (v - 65).toInt = v.toInt - 65 := by rw [ti_sub (by simp; omega) (by simp; omega)]; rfl
      rw [ti_eq, nI_toInt (by omega), ti_add (by rw [e1]; simp; omega) (by rw [e1]; simp; omega), e1]
      simp; omega
  obtain ⟨k, hk, he⟩ := key
  have : dv v = k := by unfold dv; rw [he, nI_toInt (by omega)]; omega
  rw [this]
  exact ⟨he, hk⟩
theorem dg_f {v : Int32} (h : isdig v = false) : dg v = -1 := by
  unfold isdig at h
  rw [Bool.or_eq_false_iff] at h
  unfold dg
  rw [h.1, h.2]
  rfl
theorem dg_lt {v : Int32} : dg v < 0 ↔ isdig v = false := by
  cases hd : isdig v with
  | true =>
    obtain ⟨e, hl⟩ := dg_t hd
    rw [e, show (0 : Int32) = nI 0 from rfl, nI_ltI (by omega) (by omega)]
    simp
  | false => rw [dg_f hd]; decide
/-- the value of two digits -/
def pv (t : Nat → Int32) (i : Nat) : Nat := 16 * dv (t i) + dv (t (i + 1))
def alld (t : Nat → Int32) (a e : Nat) : Bool := decide (∀ j, j < e → a ≤ j → isdig (t j) = true)
theorem alld_t {t : Nat → Int32} {a e : Nat} : alld t a e = true ↔ ∀ j, j < e → a ≤ j → isdig (t j) = true := by unfold alld; rw [decide_eq_true_eq]
theorem pv_lt {t : Nat → Int32} {i : Nat} (h1 : isdig (t i) = true) (h2 : isdig (t (i + 1)) = true) : pv t i < 256 := by
  have := (dg_t h1).2
  have := (dg_t h2).2
  unfold pv; omega
/-- the sum of k pairs from a on -/
def psum (t : Nat → Int32) (a : Nat) : Nat → Nat
  | 0 => 0
  | k + 1 => psum t a k + pv t (a + 2 * k)
/-- only the reference's row of a line's bytes is changed -/
def LnF (h g : JH) : Prop := g.2 = h.2 ∧ ∀ a b, a ≠ 43 → gi g a b = gi h a b
/-- a data byte is put -/
def put1 (h : JH) (ad : Nat) (v : Int32) : JH := si (si (si h 41 ad v) 42 ad 1) 38 8 (gi h 38 8 + 1)
section F1
variable {x : JX} {h : JH}
theorem j_X9_digitOf {v : Int32} : JF x yX9_digitOf cX9_digitOf 1 (some .int) 1 0 0 [.int v] h (some (.int (dg v))) h := by
  refine JM_of [some (.int v)] (by decide) (Nat.le_of_ble_eq_true rfl) rfl ?_
  refine J_iload_n (pq := 1) dX9_digitOf_0 rfl rfl (J_bipush (pq := 3) dX9_digitOf_1 rfl c_bipush_48 (J_bipush (pq := 5) dX9_digitOf_3 rfl c_bipush_57 (J_statF (pq := 8) dX9_digitOf_5 rfl (j_X9_isIn) rfl tg_X9_isIn l_X9_137 st_X9_isIn (Nat.le_of_ble_eq_true rfl) (Nat.zero_le _) (Nat.zero_le _) (Nat.le_of_ble_eq_true rfl) (J_if_eq (pq := 11) (tgt := 18) dX9_digitOf_8 rfl rfl (fun c => ?_) (fun c => ?_)))))
  · rw [bi_0] at c
    have c1 := c
    refine J_iload_n (pq := 19) dX9_digitOf_18 rfl rfl (J_bipush (pq := 21) dX9_digitOf_19 rfl c_bipush_65 (J_bipush (pq := 23) dX9_digitOf_21 rfl c_bipush_70 (J_statF (pq := 26) dX9_digitOf_23 rfl (j_X9_isIn) rfl tg_X9_isIn l_X9_137 st_X9_isIn (Nat.le_of_ble_eq_true rfl) (Nat.zero_le _) (Nat.zero_le _) (Nat.le_of_ble_eq_true rfl) (J_if_eq (pq := 29) (tgt := 39) dX9_digitOf_26 rfl rfl (fun c => ?_) (fun c => ?_)))))
    · rw [bi_0] at c
      refine J_iconst (pq := 40) dX9_digitOf_39 rfl c_iconst_m1 (J_iret dX9_digitOf_40 rfl rfl ?_)
      exact ⟨by unfold dg; rw [c1, c]; rfl, rfl⟩
    · rw [bi_0, Bool.not_eq_false] at c
      refine J_iload_n (pq := 30) dX9_digitOf_29 rfl rfl (J_bipush (pq := 32) dX9_digitOf_30 rfl c_bipush_65 (J_isub (pq := 33) dX9_digitOf_32 rfl (J_bipush (pq := 35) dX9_digitOf_33 rfl c_bipush_10 (J_iadd (pq := 36) dX9_digitOf_35 rfl (J_goto (tgt := 40) dX9_digitOf_36 rfl (J_iret dX9_digitOf_40 rfl rfl ?_))))))
      exact ⟨by unfold dg; rw [c1, c]; rfl, rfl⟩
  · rw [bi_0, Bool.not_eq_false] at c
    refine J_iload_n (pq := 12) dX9_digitOf_11 rfl rfl (J_bipush (pq := 14) dX9_digitOf_12 rfl c_bipush_48 (J_isub (pq := 15) dX9_digitOf_14 rfl (J_goto (tgt := 40) dX9_digitOf_15 rfl (J_iret dX9_digitOf_40 rfl rfl ?_))))
    exact ⟨by unfold dg; rw [c]; rfl, rfl⟩
theorem j_X9_bytes {a e : Nat} (hK : Kin h) (hR : MR h) (hae : a ≤ e) (he : e ≤ 400) : JM x yX9_bytes cX9_bytes 7 (some .int) 2 0 0 [.ref 38, .int (nI a), .int (nI e)] h (fun v g => LnF h g ∧ (((e - a) % 2 = 0 ∧ alld (gi h 40) a e = true ∧ v = some (.int (nI ((e - a) / 2))) ∧ ∀ k, k < (e - a) / 2 → gi g 43 k = nI (pv (gi h 40) (a + 2 * k))) ∨ (¬ ((e - a) % 2 = 0 ∧ alld (gi h 40) a e = true) ∧ v = some (.int (-1))))) := by
  refine JM_of [some (.ref 38), some (.int (nI a)), some (.int (nI e)), none, none, none, none] (by decide) (Nat.le_of_ble_eq_true rfl) rfl ?_
  have hr2 : (nI e - nI a) - (nI e - nI a) / 2 * 2 = nI ((e - a) % 2) := by rw [pk_sub hae, show (2 : Int32) = nI 2 from rfl, pk_rem (by omega) (by omega) (by omega)]
  refine J_iload_n (pq := 1) dX9_bytes_0 rfl rfl (J_iload_n (pq := 2) dX9_bytes_1 rfl rfl (J_isub (pq := 3) dX9_bytes_2 rfl (J_iconst (pq := 4) dX9_bytes_3 rfl c_iconst_2 (J_irem (pq := 5) dX9_bytes_4 rfl (by decide) (J_if_eq (pq := 8) (tgt := 10) dX9_bytes_5 rfl rfl (fun c => ?_) (fun c => ?_))))))
  · rw [hr2, show (0 : Int32) = nI 0 from rfl, nI_eq (by omega) (by omega)] at c
    have hev := c
    refine J_iconst (pq := 11) dX9_bytes_10 rfl c_iconst_0 (J_istore_m 3 (pq := 12) dX9_bytes_11 rfl rfl (Nat.le_of_ble_eq_true rfl) (Nat.le_of_ble_eq_true rfl) rfl (J_iload_n (pq := 13) dX9_bytes_12 rfl rfl (J_istore (pq := 15) dX9_bytes_13 rfl (Nat.le_of_ble_eq_true rfl) (Nat.le_of_ble_eq_true rfl) rfl (?_))))
    refine J_loop (σ := Nat × JH) (fun p => [some (.ref 38), some (.int (nI a)), some (.int (nI e)), some (.int (nI p.1)), some (.int (nI (a + 2 * p.1))), none, none]) (fun _ => []) (fun p => p.2) (fun p => a + 2 * p.1 ≤ e ∧ LnF h p.2 ∧ (∀ j, j < a + 2 * p.1 → a ≤ j → isdig (gi h 40 j) = true) ∧ ∀ k, k < p.1 → gi p.2 43 k = nI (pv (gi h 40) (a + 2 * k))) (fun p => e - (a + 2 * p.1)) (0, h) rfl rfl rfl ⟨by omega, ⟨rfl, fun _ _ _ => rfl⟩, fun j h1 h2 => by simp only at h1; omega, fun k hk => by simp only at hk; omega⟩ (fun p hp ih => ?_)
    obtain ⟨k, g⟩ := p
    obtain ⟨hp1, hp2, hp3, hp4⟩ := hp
    simp only at hp1 hp2 hp3 hp4
    have hKg : Kin g := hK.of2 hp2.1
    have hRg : MR g := hR.of2 hp2.1
    refine J_iload (pq := 17) dX9_bytes_15 rfl rfl (J_iload_n (pq := 18) dX9_bytes_17 rfl rfl (J_icmp_ge (pq := 21) (tgt := 82) dX9_bytes_18 rfl rfl (fun c => ?_) (fun c => ?_)))
    · rw [nI_leI (by omega) (by omega)] at c
      refine J_iload_n (pq := 83) dX9_bytes_82 rfl rfl (J_iret dX9_bytes_83 rfl rfl ?_)
      have hk : k = (e - a) / 2 := by omega
      refine ⟨hp2, Or.inl ⟨hev, alld_t.mpr (fun j h1 h2 => hp3 j (by omega) h2), by rw [hk], fun i hi => hp4 i (by omega)⟩⟩
    · rw [nI_leI (by omega) (by omega)] at c
      have hb1 : vp_in (nI (a + 2 * k)) 400 := vp_in_nI (by omega) (by omega)
      have hx1 : ix (nI (a + 2 * k)) = a + 2 * k := ixn (by omega)
      have hb2 : vp_in (nI (a + 2 * k) + 1) 400 := vinN (nI_1 _) (by omega) (by omega)
      have hx2 : ix (nI (a + 2 * k) + 1) = a + 2 * k + 1 := by rw [nI_1, ixn (by omega)]
      have hb3 : vp_in (nI k) 200 := vp_in_nI (by omega) (by omega)
      have hx3 : ix (nI k) = k := ixn (by omega)
      have ht1 : gi g 40 (ix (nI (a + 2 * k))) = gi h 40 (a + 2 * k) := by rw [hx1, hp2.2 40 _ (by decide)]
      have ht2 : gi g 40 (ix (nI (a + 2 * k) + 1)) = gi h 40 (a + 2 * k + 1) := by rw [hx2, hp2.2 40 _ (by decide)]
      refine J_aload_n (pq := 22) dX9_bytes_21 rfl rfl (J_getA (pq := 25) dX9_bytes_22 rfl f_X9_13 (by decide +kernel) (hKg.at rfl) (hRg _ _ rfl) (J_iload (pq := 27) dX9_bytes_25 rfl rfl (J_iald (pq := 28) dX9_bytes_27 rfl (hKg.at rfl) (by assumption) (J_statF (pq := 31) dX9_bytes_28 rfl (j_X9_digitOf) rfl tg_X9_digitOf l_X9_141 st_X9_digitOf (Nat.le_of_ble_eq_true rfl) (Nat.zero_le _) (Nat.zero_le _) (Nat.le_of_ble_eq_true rfl) (J_istore (pq := 33) dX9_bytes_31 rfl (Nat.le_of_ble_eq_true rfl) (Nat.le_of_ble_eq_true rfl) rfl (J_aload_n (pq := 34) dX9_bytes_33 rfl rfl (J_getA (pq := 37) dX9_bytes_34 rfl f_X9_13 (by decide +kernel) (hKg.at rfl) (hRg _ _ rfl) (J_iload (pq := 39) dX9_bytes_37 rfl rfl (J_iconst (pq := 40) dX9_bytes_39 rfl c_iconst_1 (J_iadd (pq := 41) dX9_bytes_40 rfl (J_iald (pq := 42) dX9_bytes_41 rfl (hKg.at rfl) (by assumption) (J_statF (pq := 45) dX9_bytes_42 rfl (j_X9_digitOf) rfl tg_X9_digitOf l_X9_141 st_X9_digitOf (Nat.le_of_ble_eq_true rfl) (Nat.zero_le _) (Nat.zero_le _) (Nat.le_of_ble_eq_true rfl) (J_istore (pq := 47) dX9_bytes_45 rfl (Nat.le_of_ble_eq_true rfl) (Nat.le_of_ble_eq_true rfl) rfl (J_iload (pq := 49) dX9_bytes_47 rfl rfl (J_if_lt (pq := 52) (tgt := 57) dX9_bytes_49 rfl rfl (fun c => ?_) (fun c => ?_))))))))))))))))
      · rw [ht1, dg_lt] at c
        refine J_iconst (pq := 58) dX9_bytes_57 rfl c_iconst_m1 (J_iret dX9_bytes_58 rfl rfl ?_)
        refine ⟨hp2, Or.inr ⟨fun q => ?_, rfl⟩⟩
        have := alld_t.mp q.2 (a + 2 * k) (by omega) (by omega)
        rw [c] at this
        cases this
      · rw [ht1, dg_lt, Bool.not_eq_false] at c
        have d1 := c
        refine J_iload (pq := 54) dX9_bytes_52 rfl rfl (J_if_ge (pq := 57) (tgt := 59) dX9_bytes_54 rfl rfl (fun c => ?_) (fun c => ?_))
        · rw [ht2] at c
          have d2 : isdig (gi h 40 (a + 2 * k + 1)) = true := by
            cases hq : isdig (gi h 40 (a + 2 * k + 1)) with
            | true => rfl
            | false => exact absurd c (i_nle.mpr (dg_lt.mpr hq))
          have hval : (16 : Int32) * dg (gi g 40 (ix (nI (a + 2 * k)))) + dg (gi g 40 (ix (nI (a + 2 * k) + 1))) = nI (pv (gi h 40) (a + 2 * k)) := by
            rw [ht1, ht2, (dg_t d1).1, (dg_t d2).1, show (16 : Int32) = nI 16 from rfl, pk_mul, nI_add]; rfl
          refine J_aload_n (pq := 60) dX9_bytes_59 rfl rfl (J_getA (pq := 63) dX9_bytes_60 rfl f_X9_30 (by decide +kernel) (hKg.at rfl) (hRg _ _ rfl) (J_iload_n (pq := 64) dX9_bytes_63 rfl rfl (J_bipush (pq := 66) dX9_bytes_64 rfl c_bipush_16 (J_iload (pq := 68) dX9_bytes_66 rfl rfl (J_imul (pq := 69) dX9_bytes_68 rfl (J_iload (pq := 71) dX9_bytes_69 rfl rfl (J_iadd (pq := 72) dX9_bytes_71 rfl (J_iast (pq := 73) dX9_bytes_72 rfl (hKg.at rfl) (by assumption) (J_iinc (pq := 76) dX9_bytes_73 rfl c_iconst_1 rfl (Nat.le_of_ble_eq_true rfl) rfl (J_iinc (pq := 79) dX9_bytes_76 rfl c_iconst_2 rfl (Nat.le_of_ble_eq_true rfl) rfl (J_goto (tgt := 15) dX9_bytes_79 rfl (?_))))))))))))
          have e2 : nI (a + 2 * k) + 2 = nI (a + 2 * (k + 1)) := by rw [show (2 : Int32) = nI 2 from rfl, nI_add]; rfl
          refine J_weak (h' := si g 43 k (nI (pv (gi h 40) (a + 2 * k)))) (by simp [lsub, nI_1, e2]) rfl (by dsimp only; rw [hval, hx3]) (ih (k + 1, si g 43 k (nI (pv (gi h 40) (a + 2 * k)))) ⟨?_, ⟨hp2.1, fun u v hu => ?_⟩, fun j h1 h2 => ?_, fun i hi => ?_⟩ (by simp only; omega))
          · simp only; omega
          · rw [gi_si, if_neg (fun q => hu q.1)]; exact hp2.2 u v hu
          · simp only at h1
            by_cases hj1 : j < a + 2 * k
            · exact hp3 j hj1 h2
            · rcases (show j = a + 2 * k ∨ j = a + 2 * k + 1 by omega) with rfl | rfl
              · exact d1
              · exact d2
          · simp only at hi
            rw [gi_si]
            by_cases hik : i = k
            · rw [if_pos ⟨rfl, hik⟩, hik]
            · rw [if_neg (fun q => hik q.2)]; exact hp4 i (by omega)
        · rw [ht2] at c
          have d2 : isdig (gi h 40 (a + 2 * k + 1)) = false := dg_lt.mp (i_nle.mp c)
          refine J_iconst (pq := 58) dX9_bytes_57 rfl c_iconst_m1 (J_iret dX9_bytes_58 rfl rfl ?_)
          refine ⟨hp2, Or.inr ⟨fun q => ?_, rfl⟩⟩
          have := alld_t.mp q.2 (a + 2 * k + 1) (by omega) (by omega)
          rw [d2] at this
          cases this
  · rw [hr2, show (0 : Int32) = nI 0 from rfl, nI_eq (by omega) (by omega)] at c
    refine J_iconst (pq := 9) dX9_bytes_8 rfl c_iconst_m1 (J_iret dX9_bytes_9 rfl rfl ?_)
    exact ⟨⟨rfl, fun _ _ _ => rfl⟩, Or.inr ⟨fun q => c q.1, rfl⟩⟩
theorem j_X9_sumOf {n : Nat} {t : Nat → Int32} {a : Nat} (hK : Kin h) (hR : MR h) (hn : n ≤ 200) (hl : ∀ k, k < n → gi h 43 k = nI (pv t (a + 2 * k))) (hs : psum t a n < 2147483648) : JF x yX9_sumOf cX9_sumOf 4 (some .int) 0 0 0 [.ref 38, .int (nI n)] h (some (.int (nI (psum t a n % 256)))) h := by
  refine JM_of [some (.ref 38), some (.int (nI n)), none, none] (by decide) (Nat.le_of_ble_eq_true rfl) rfl ?_
  refine J_iconst (pq := 1) dX9_sumOf_0 rfl c_iconst_0 (J_istore_m 2 (pq := 2) dX9_sumOf_1 rfl rfl (Nat.le_of_ble_eq_true rfl) (Nat.le_of_ble_eq_true rfl) rfl (J_iconst (pq := 3) dX9_sumOf_2 rfl c_iconst_0 (J_istore_m 3 (pq := 4) dX9_sumOf_3 rfl rfl (Nat.le_of_ble_eq_true rfl) (Nat.le_of_ble_eq_true rfl) rfl (?_))))
  refine J_loop (σ := Nat) (fun k => [some (.ref 38), some (.int (nI n)), some (.int (nI (psum t a k))), some (.int (nI k))]) (fun _ => []) (fun _ => h) (fun k => k ≤ n) (fun k => n - k) 0 rfl rfl rfl (by omega) (fun k hk ih => ?_)
  refine J_iload_n (pq := 5) dX9_sumOf_4 rfl rfl (J_iload_n (pq := 6) dX9_sumOf_5 rfl rfl (J_icmp_ge (pq := 9) (tgt := 24) dX9_sumOf_6 rfl rfl (fun c => ?_) (fun c => ?_)))
  · rw [nI_leI (by omega) (by omega)] at c
    have hkn : k = n := by omega
    subst hkn
    refine J_iload_n (pq := 25) dX9_sumOf_24 rfl rfl (J_sipush (pq := 28) dX9_sumOf_25 rfl c_sipush_256 (J_irem (pq := 29) dX9_sumOf_28 rfl (by decide) (J_iret dX9_sumOf_29 rfl rfl ?_)))
    exact ⟨by rw [rem256 _ hs], rfl⟩
  · rw [nI_leI (by omega) (by omega)] at c
    have hb : vp_in (nI k) 200 := vp_in_nI (by omega) (by omega)
    have hx : ix (nI k) = k := ixn (by omega)
    refine J_iload_n (pq := 10) dX9_sumOf_9 rfl rfl (J_aload_n (pq := 11) dX9_sumOf_10 rfl rfl (J_getA (pq := 14) dX9_sumOf_11 rfl f_X9_30 (by decide +kernel) (hK.at rfl) (hR _ _ rfl) (J_iload_n (pq := 15) dX9_sumOf_14 rfl rfl (J_iald (pq := 16) dX9_sumOf_15 rfl (hK.at rfl) (by assumption) (J_iadd (pq := 17) dX9_sumOf_16 rfl (J_istore_m 2 (pq := 18) dX9_sumOf_17 rfl rfl (Nat.le_of_ble_eq_true rfl) (Nat.le_of_ble_eq_true rfl) rfl (J_iinc (pq := 21) dX9_sumOf_18 rfl c_iconst_1 rfl (Nat.le_of_ble_eq_true rfl) rfl (J_goto (tgt := 4) dX9_sumOf_21 rfl (?_)))))))))
    refine J_weak ?_ rfl rfl (ih (k + 1) (by omega) (by omega))
    rw [hx, hl k (by omega), nI_add, nI_1]
    simp [lsub, psum]
theorem j_X9_put {ad : Nat} {v : Int32} (hK : Kin h) (hR : MR h) (ha : ad < 256) : JF x yX9_put cX9_put 3 none 0 0 0 [.ref 38, .int (nI ad), .int v] h none (put1 h ad v) := by
  refine JM_of [some (.ref 38), some (.int (nI ad)), some (.int v)] (by decide) (Nat.le_of_ble_eq_true rfl) rfl ?_
  have hb : vp_in (nI ad) 256 := vp_in_nI (by omega) (by omega)
  have hx : ix (nI ad) = ad := ixn (by omega)
  refine J_aload_n (pq := 1) dX9_put_0 rfl rfl (J_getA (pq := 4) dX9_put_1 rfl f_X9_23 (by decide +kernel) (hK.at rfl) (hR _ _ rfl) (J_iload_n (pq := 5) dX9_put_4 rfl rfl (J_iload_n (pq := 6) dX9_put_5 rfl rfl (J_iast (pq := 7) dX9_put_6 rfl (hK.at rfl) (by assumption) (J_aload_n (pq := 8) dX9_put_7 rfl rfl (J_getA (pq := 11) dX9_put_8 rfl f_X9_26 (by decide +kernel) (hK.at rfl) (hR _ _ rfl) (J_iload_n (pq := 12) dX9_put_11 rfl rfl (J_iconst (pq := 13) dX9_put_12 rfl c_iconst_1 (J_zast (pq := 14) dX9_put_13 rfl (hK.at rfl) (by assumption) (J_aload_n (pq := 15) dX9_put_14 rfl rfl (J_dup (pq := 16) dX9_put_15 rfl rfl (J_getI (pq := 19) dX9_put_16 rfl f_X9_145 jsI (hK.at rfl) (J_iconst (pq := 20) dX9_put_19 rfl c_iconst_1 (J_iadd (pq := 21) dX9_put_20 rfl (J_putI (pq := 24) dX9_put_21 rfl f_X9_145 (Or.inl rfl) (hK.at rfl) (J_vret dX9_put_24 rfl ?_))))))))))))))))
  refine ⟨rfl, ?_⟩
  rw [hx]
  simp [put1, gi_si]
end F1
