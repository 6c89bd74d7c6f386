section F5
variable {x : JX} {h : JH}
def plN (h : JH) : Nat → JH
  | 0 => h
  | k + 1 => put1 (plN h k) k (gi h 40 k)
theorem plN_F (h : JH) : ∀ k, FlF h (plN h k)
  | 0 => FlF.rf h
  | k + 1 => (plN_F h k).tr (put1_F _ _ _)
theorem plN_c (h : JH) : ∀ k, gi (plN h k) 38 8 = gi h 38 8 + nI k
  | 0 => by rw [plN, show nI 0 = 0 from nI_0]; simp
  | k + 1 => by rw [plN, put1_c, plN_c h k, Int32.add_assoc, nI_1]
theorem plN_m (h : JH) (j : Nat) : ∀ k, mg (plN h k) j = if j < k then gi h 40 j else mg h j
  | 0 => by rw [plN, if_neg (by omega)]
  | k + 1 => by
    rw [plN, put1_m, plN_m h j k]
    by_cases hj : j = k
    · subst hj
      rw [if_pos rfl, if_pos (by omega)]
    · rw [if_neg hj]
      by_cases hc : j < k
      · rw [if_pos hc, if_pos (by omega)]
      · rw [if_neg hc, if_neg (by omega)]
theorem j_X9_readPlain {n : Nat} (hK : Kin h) (hR : MR h) (hn : gi h 38 2 = nI n) (hn4 : n ≤ 400) : JF x yX9_readPlain cX9_readPlain 2 (some .int) 1 0 0 [.ref 38] h (some (.int (if n ≤ 256 then 0 else 5))) (if n ≤ 256 then plN (si h 38 4 256) n else si h 38 4 256) := by
  refine JM_of [some (.ref 38), none] (by decide) (Nat.le_of_ble_eq_true rfl) rfl ?_
  have l256 : (256 : Int32) = nI 256 := rfl
  have hn2 : gi (si h 38 4 256) 38 2 = nI n := by rw [gi_si, if_neg (by decide)]; exact hn
  refine J_aload_n (pq := 1) dX9_readPlain_0 rfl rfl (J_sipush (pq := 4) dX9_readPlain_1 rfl c_sipush_256 (J_putI (pq := 7) dX9_readPlain_4 rfl f_X9_20 (Or.inl rfl) (hK.at rfl) (J_aload_n (pq := 8) dX9_readPlain_7 rfl rfl (J_getI (pq := 11) dX9_readPlain_8 rfl f_X9_130 jsI (hK.at rfl) (J_sipush (pq := 14) dX9_readPlain_11 rfl c_sipush_256 (J_icmp_le (pq := 17) (tgt := 19) dX9_readPlain_14 rfl rfl (fun c => ?_) (fun c => ?_)))))))
  · rw [hn2, l256, nI_leI (by omega) (by omega)] at c
    rw [if_pos c, if_pos c]
    have c1 := c
    refine J_iconst (pq := 20) dX9_readPlain_19 rfl c_iconst_0 (J_istore_m 1 (pq := 21) dX9_readPlain_20 rfl rfl (Nat.le_of_ble_eq_true rfl) (Nat.le_of_ble_eq_true rfl) rfl (?_))
    refine J_loop (σ := Nat) (fun k => [some (.ref 38), some (.int (nI k))]) (fun _ => []) (fun k => plN (si h 38 4 256) k) (fun k => k ≤ n) (fun k => n - k) 0 rfl rfl rfl (by omega) (fun k hk ih => ?_)
    have hF := plN_F (si h 38 4 256) k
    have hKg : Kin (plN (si h 38 4 256) k) := hK.of2 hF.1
    have hRg : MR (plN (si h 38 4 256) k) := hR.of2 hF.1
    have hng : gi (plN (si h 38 4 256) k) 38 2 = nI n := by rw [hF.2 38 2 (by decide) (by decide) (by decide) (by simp)]; exact hn2
    refine J_iload_n (pq := 22) dX9_readPlain_21 rfl rfl (J_aload_n (pq := 23) dX9_readPlain_22 rfl rfl (J_getI (pq := 26) dX9_readPlain_23 rfl f_X9_130 jsI (hKg.at rfl) (J_icmp_ge (pq := 29) (tgt := 46) dX9_readPlain_26 rfl rfl (fun c => ?_) (fun c => ?_))))
    · rw [hng, nI_leI (by omega) (by omega)] at c
      have hkn : k = n := by omega
      subst hkn
      refine J_iconst (pq := 47) dX9_readPlain_46 rfl c_iconst_0 (J_iret dX9_readPlain_47 rfl rfl ?_)
      exact ⟨rfl, rfl⟩
    · rw [hng, nI_leI (by omega) (by omega)] at c
      have hb : vp_in (nI k) 400 := vp_in_nI (by omega) (by omega)
      have hx : ix (nI k) = k := ixn (by omega)
      refine J_aload_n (pq := 30) dX9_readPlain_29 rfl rfl (J_iload_n (pq := 31) dX9_readPlain_30 rfl rfl (J_aload_n (pq := 32) dX9_readPlain_31 rfl rfl (J_getA (pq := 35) dX9_readPlain_32 rfl f_X9_13 (by decide +kernel) (hKg.at rfl) (hRg _ _ rfl) (J_iload_n (pq := 36) dX9_readPlain_35 rfl rfl (J_iald (pq := 37) dX9_readPlain_36 rfl (hKg.at rfl) (by assumption) (J_virtF (pq := 40) dX9_readPlain_37 rfl (j_X9_put hKg hRg (by omega)) rfl tg_X9_put l_X9_162 vi_X9_put (hKg.at rfl) ⟨by decide, rfl⟩ (Nat.le_of_ble_eq_true rfl) (Nat.zero_le _) (Nat.zero_le _) (Nat.le_of_ble_eq_true rfl) (J_iinc (pq := 43) dX9_readPlain_40 rfl c_iconst_1 rfl (Nat.le_of_ble_eq_true rfl) rfl (J_goto (tgt := 21) dX9_readPlain_43 rfl (?_)))))))))
      refine J_weak (by simp [lsub, nI_1]) rfl ?_ (ih (k + 1) (by omega) (by omega))
      rw [hx, hF.2 40 k (by decide) (by decide) (by decide) (by simp)]
      rfl
  · rw [hn2, l256, nI_leI (by omega) (by omega)] at c
    rw [if_neg c, if_neg c]
    refine J_iconst (pq := 18) dX9_readPlain_17 rfl c_iconst_5 (J_iret dX9_readPlain_18 rfl rfl ?_)
    exact ⟨rfl, rfl⟩
theorem j_X9_file_no {v : Int32} (hv : isin v 0 2 = false) : JF x yX9_file cX9_file 3 (some .int) 5 0 0 [.ref 38, .int v] h (some (.int (-1))) h := by
  refine JM_of [some (.ref 38), some (.int v), none] (by decide) (Nat.le_of_ble_eq_true rfl) rfl ?_
  refine J_iload_n (pq := 1) dX9_file_0 rfl rfl (J_iconst (pq := 2) dX9_file_1 rfl c_iconst_0 (J_iconst (pq := 3) dX9_file_2 rfl c_iconst_2 (J_statF (pq := 6) dX9_file_3 rfl (j_X9_isIn) rfl tg_X9_isIn l_X9_137 st_X9_isIn (Nat.le_of_ble_eq_true rfl) (Nat.zero_le _) (Nat.zero_le _) (Nat.le_of_ble_eq_true rfl) (J_if_ne (pq := 9) (tgt := 11) dX9_file_6 rfl rfl (fun c => ?_) (fun c => ?_)))))
  · rw [bi_0, hv] at c; exact absurd rfl c
  · refine J_iconst (pq := 10) dX9_file_9 rfl c_iconst_m1 (J_iret dX9_file_10 rfl rfl ?_)
    exact ⟨rfl, rfl⟩
/-- what file leaves behind in the reference -/
def FileP (r : Nat × Nat × (Nat → Int32) × Nat) (h g : JH) : Prop := g.2.2 = h.2.2 ∧ (∀ a b, a ≠ 38 → a ≠ 39 → a ≠ 41 → a ≠ 42 → a ≠ 43 → gi g a b = gi h a b) ∧ (∀ a b, ¬ (a = 38 ∧ b = 5) → gl g a b = gl h a b) ∧ (∀ b, b ≠ 2 → b ≠ 3 → b ≠ 4 → b ≠ 8 → b ≠ 10 → gi g 38 b = gi h 38 b)
  ∧ gi g 38 2 = 0 ∧ gi g 38 3 = nI r.1 ∧ gi g 38 4 = (if r.1 = 0 then -1 else nI r.2.1) ∧ (∀ j, j < 256 → gi g 39 j = if r.1 = 0 then r.2.2.1 j else gi h 39 j) ∧ gl g 38 5 = (if r.1 = 0 then gl h 38 5 + (nI r.2.2.2).toInt64 else gl h 38 5)
theorem Kin.of3 {g : JH} (hK : Kin h) (e : g.2.2 = h.2.2) : Kin g := by
  obtain ⟨r, hr⟩ := hK
  exact ⟨r, by rw [← hr]; show g.2.2.2 = h.2.2.2; rw [e]⟩
theorem MR.of3 {g : JH} (hR : MR h) (e : g.2.2 = h.2.2) : MR g := fun k a hk => by
  show g.2.2.1 38 k = some a
  rw [e]
  exact hR k a hk
theorem rdl_lt (fm : Nat) (t : Nat → Int32) (n : Nat) : ∀ f p im ct, (rdl fm t n f p im ct).1 < 10
  | 0, p, im, ct => by simp [rdl]
  | f + 1, p, im, ct => by
    rw [rdl]
    have hb5 : (lr fm t p (lend t n p (eoln t n p))).1 < 4 := by
      unfold lr
      split
      · unfold lr1; repeat' split
        all_goals simp
      · unfold lr2; repeat' split
        all_goals simp
    split
    · split
      · split
        · split
          · simp
          · exact rdl_lt fm t n f _ _ _
        · simp only; omega
      · exact rdl_lt fm t n f _ _ _
    · simp
theorem fileS_lt (fm : Nat) (t : Nat → Int32) (n : Nat) (im : Nat → Int32) : (fileS fm t n im).1 < 10 := by
  unfold fileS
  split
  · split <;> simp
  · exact rdl_lt _ _ _ _ _ _ _
/-- the merge of the new bytes -/
def mgN (h : JH) (k : Nat) : JH := (fun a b => if a = 39 ∧ b < k then mg h b else h.1 a b, h.2)
theorem gi_mgN (h : JH) (k a b : Nat) : gi (mgN h k) a b = if a = 39 ∧ b < k then mg h b else gi h a b := rfl
theorem mgN_0 (h : JH) : mgN h 0 = h := by unfold mgN; simp
theorem mgN_s (h : JH) (k : Nat) : si (mgN h k) 39 k (mg h k) = mgN h (k + 1) := by
  refine Prod.ext ?_ rfl
  funext a b
  show gi (si (mgN h k) 39 k (mg h k)) a b = gi (mgN h (k + 1)) a b
  rw [gi_si, gi_mgN, gi_mgN]
  by_cases ha : a = 39
  · by_cases hb : b = k
    · simp [ha, hb]
    · have : (b < k + 1) = (b < k) := by simp; omega
      simp [ha, hb, this]
  · simp [ha]
theorem j_X9_file {fm n : Nat} {fI : Int32} (hfm : (fm = 0 ∧ fI = 0) ∨ (fm = 1 ∧ fI = 1) ∨ (fm = 2 ∧ fI = 2)) (hK : Kin h) (hR : MR h) (hn : gi h 38 2 = nI n) (hn4 : n ≤ 400) (hby : ∀ j, j < 400 → 0 ≤ gi h 40 j) : JM x yX9_file cX9_file 3 (some .int) 5 0 0 [.ref 38, .int fI] h (fun v g => v = some (.int (if (fileS fm (gi h 40) n (gi h 39)).1 = 0 then nI (fileS fm (gi h 40) n (gi h 39)).2.2.2 else -1)) ∧ FileP (fileS fm (gi h 40) n (gi h 39)) h g) := by
  generalize hRR : fileS fm (gi h 40) n (gi h 39) = RR
  have hlt : RR.1 < 10 := by rw [← hRR]; exact fileS_lt _ _ _ _
  refine JM_of [some (.ref 38), some (.int fI), none] (by decide) (Nat.le_of_ble_eq_true rfl) rfl ?_
  have hi : isin fI 0 2 = true := by rcases hfm with ⟨-, rfl⟩ | ⟨-, rfl⟩ | ⟨-, rfl⟩ <;> decide
  have l256 : (256 : Int32) = nI 256 := rfl
  refine J_iload_n (pq := 1) dX9_file_0 rfl rfl (J_iconst (pq := 2) dX9_file_1 rfl c_iconst_0 (J_iconst (pq := 3) dX9_file_2 rfl c_iconst_2 (J_statF (pq := 6) dX9_file_3 rfl (j_X9_isIn) rfl tg_X9_isIn l_X9_137 st_X9_isIn (Nat.le_of_ble_eq_true rfl) (Nat.zero_le _) (Nat.zero_le _) (Nat.le_of_ble_eq_true rfl) (J_if_ne (pq := 9) (tgt := 11) dX9_file_6 rfl rfl (fun c => ?_) (fun c => ?_)))))
  · refine J_iconst (pq := 12) dX9_file_11 rfl c_iconst_0 (J_istore_m 2 (pq := 13) dX9_file_12 rfl rfl (Nat.le_of_ble_eq_true rfl) (Nat.le_of_ble_eq_true rfl) rfl (?_))
    refine J_loop (σ := Nat) (fun k => [some (.ref 38), some (.int fI), some (.int (nI k))]) (fun _ => []) (fun k => fillN h 42 k 0) (fun k => k ≤ 256) (fun k => 256 - k) 0 rfl rfl (fillN_0 h 42 0).symm (by omega) (fun k hk ih => ?_)
    refine J_iload_n (pq := 14) dX9_file_13 rfl rfl (J_sipush (pq := 17) dX9_file_14 rfl c_sipush_256 (J_icmp_ge (pq := 20) (tgt := 33) dX9_file_17 rfl rfl (fun c => ?_) (fun c => ?_)))
    · rw [l256, nI_leI (by omega) (by omega)] at c
      have hk256 : k = 256 := by omega
      subst hk256
      generalize hg0 : si (fillN h 42 256 0) 38 8 0 = g0
      have hK0 : Kin g0 := by rw [← hg0]; exact hK
      have hR0 : MR g0 := by rw [← hg0]; exact hR
      have e0 : g0.2 = h.2 := by rw [← hg0]; rfl
      have hgi0 : ∀ a b, a ≠ 42 → ¬ (a = 38 ∧ b = 8) → gi g0 a b = gi h a b := by
        intro a b h1 h2
        rw [← hg0, gi_si, if_neg h2, gi_fillN, if_neg (fun q => h1 q.1)]
      have hn0 : gi g0 38 2 = nI n := by rw [hgi0 38 2 (by decide) (by decide)]; exact hn
      have h40 : gi g0 40 = gi h 40 := funext fun b => hgi0 40 b (by decide) (by simp)
      have hmg0 : ∀ j, j < 256 → mg g0 j = gi h 39 j := by
        intro j hj
        have e42 : gi g0 42 j = 0 := by rw [← hg0, gi_si, if_neg (by simp), gi_fillN, if_pos ⟨rfl, hj⟩]
        unfold mg
        rw [e42, if_pos rfl, hgi0 39 j (by decide) (by simp)]
      have h8 : gi g0 38 8 = 0 := by rw [← hg0, gi_si, if_pos ⟨rfl, rfl⟩]
      -- behind the reading
      refine J_cut (σ := JH) 58 (fun _ => [some (.ref 38), some (.int fI), none]) (fun _ => []) (fun g => si g 38 3 (nI RR.1)) (fun g => FlG g0 g ∧ (RR.1 ≠ 0 → gi g 38 4 = nI RR.2.1) ∧ (RR.1 = 0 → gi g 38 8 = nI RR.2.2.2 ∧ ∀ j, j < 256 → mg g j = RR.2.2.1 j)) (fun g hg => ?_) (fun k58 => ?_)
      · obtain ⟨hF, hpl, hok⟩ := hg
        have hKg : Kin g := hK0.of2 hF.1
        have hRg : MR g := hR0.of2 hF.1
        have hgh : ∀ a b, a ≠ 38 → a ≠ 41 → a ≠ 42 → a ≠ 43 → gi g a b = gi h a b := fun a b x1 x2 x3 x4 => by rw [hF.2 a b x2 x3 x4 (fun q => x1 q.1), hgi0 a b x3 (fun q => x1 q.1)]
        have hg38 : ∀ b, b ≠ 8 → b ≠ 10 → b ≠ 4 → gi g 38 b = gi h 38 b := fun b x1 x2 x3 => by rw [hF.2 38 b (by decide) (by decide) (by decide) (by simp [x1, x2, x3]), hgi0 38 b (by decide) (by simp [x1])]
        have e2 : g.2 = h.2 := hF.1.trans e0
        refine J_aload_n (pq := 59) dX9_file_58 rfl rfl (J_iconst (pq := 60) dX9_file_59 rfl c_iconst_0 (J_putI (pq := 63) dX9_file_60 rfl f_X9_130 (Or.inl rfl) (hKg.at rfl) (J_aload_n (pq := 64) dX9_file_63 rfl rfl (J_getI (pq := 67) dX9_file_64 rfl f_X9_16 jsI (hKg.at rfl) (J_if_eq (pq := 70) (tgt := 72) dX9_file_67 rfl rfl (fun c => ?_) (fun c => ?_))))))
        · rw [gi_si, if_neg (by decide), gi_si, if_pos ⟨rfl, rfl⟩, show (0 : Int32) = nI 0 from rfl, nI_eq (by omega) (by omega)] at c
          obtain ⟨ok1, ok2⟩ := hok c
          refine J_aload_n (pq := 73) dX9_file_72 rfl rfl (J_iconst (pq := 74) dX9_file_73 rfl c_iconst_m1 (J_putI (pq := 77) dX9_file_74 rfl f_X9_20 (Or.inl rfl) (hKg.at rfl) (J_iconst (pq := 78) dX9_file_77 rfl c_iconst_0 (J_istore_m 2 (pq := 79) dX9_file_78 rfl rfl (Nat.le_of_ble_eq_true rfl) (Nat.le_of_ble_eq_true rfl) rfl (?_)))))
          generalize hg1 : si (si (si g 38 3 (nI RR.1)) 38 2 0) 38 4 (-1) = g1
          have hK1 : Kin g1 := by rw [← hg1]; exact hKg
          have hR1 : MR g1 := by rw [← hg1]; exact hRg
          have hmg1 : ∀ j, mg g1 j = mg g j := fun j => by rw [← hg1, mg_si38, mg_si38, mg_si38]
          refine J_loop (σ := Nat) (fun k => [some (.ref 38), some (.int fI), some (.int (nI k))]) (fun _ => []) (fun k => mgN g1 k) (fun k => k ≤ 256) (fun k => 256 - k) 0 rfl rfl (mgN_0 g1).symm (by omega) (fun k hk ih => ?_)
          have hK2 : Kin (mgN g1 k) := hK1
          have hR2 : MR (mgN g1 k) := hR1
          refine J_iload_n (pq := 80) dX9_file_79 rfl rfl (J_sipush (pq := 83) dX9_file_80 rfl c_sipush_256 (J_icmp_ge (pq := 86) (tgt := 122) dX9_file_83 rfl rfl (fun c => ?_) (fun c => ?_)))
          · rw [l256, nI_leI (by omega) (by omega)] at c
            have hk256 : k = 256 := by omega
            subst hk256
            have hm38 : ∀ b, gi (mgN g1 256) 38 b = gi g1 38 b := fun b => by rw [gi_mgN, if_neg (by simp)]
            have h18 : gi g1 38 8 = nI RR.2.2.2 := by rw [← hg1, gi_si, if_neg (by decide), gi_si, if_neg (by decide), gi_si, if_neg (by decide)]; exact ok1
            refine J_aload_n (pq := 123) dX9_file_122 rfl rfl (J_dup (pq := 124) dX9_file_123 rfl rfl (J_getL (pq := 127) dX9_file_124 rfl f_X9_179 jsJ (hK2.at rfl) (J_aload_n (pq := 128) dX9_file_127 rfl rfl (J_getI (pq := 131) dX9_file_128 rfl f_X9_145 jsI (hK2.at rfl) (J_i2l (pq := 132) dX9_file_131 rfl (J_ladd (pq := 133) dX9_file_132 rfl (J_putL (pq := 136) dX9_file_133 rfl f_X9_179 (Or.inl rfl) (hK2.at rfl) (J_aload_n (pq := 137) dX9_file_136 rfl rfl (J_getI (pq := 140) dX9_file_137 rfl f_X9_145 jsI (hK2.at rfl) (J_iret dX9_file_140 rfl rfl ?_))))))))))
            rw [hm38, h18, if_pos (by assumption)]
            have e12 : g1.2 = h.2 := by rw [← hg1]; exact e2
            refine ⟨by rw [gi_sl, hm38, h18], ?_, ?_, ?_, ?_, ?_, ?_, ?_, ?_, ?_⟩
            · show g1.2.2 = h.2.2
              rw [e12]
            · intro a b x1 x2 x3 x4 x5
              rw [gi_sl, gi_mgN, if_neg (fun q => x2 q.1), ← hg1, gi_si, if_neg (fun q => x1 q.1), gi_si, if_neg (fun q => x1 q.1), gi_si, if_neg (fun q => x1 q.1)]
              exact hgh a b x1 x3 x4 x5
            · intro a b x1
              rw [gl_sl, if_neg x1]
              show g1.2.1 a b = h.2.1 a b
              rw [e12]
            · intro b x1 x2 x3 x4 x5
              rw [gi_sl, hm38, ← hg1, gi_si, if_neg (fun q => x3 q.2), gi_si, if_neg (fun q => x1 q.2), gi_si, if_neg (fun q => x2 q.2)]
              exact hg38 b x4 x5 x3
            · rw [gi_sl, hm38, ← hg1, gi_si, if_neg (by decide), gi_si, if_pos ⟨rfl, rfl⟩]
            · rw [gi_sl, hm38, ← hg1, gi_si, if_neg (by decide), gi_si, if_neg (by decide), gi_si, if_pos ⟨rfl, rfl⟩]
            · rw [gi_sl, hm38, ← hg1, gi_si, if_pos ⟨rfl, rfl⟩, if_pos (by assumption)]
            · intro j hj
              rw [gi_sl, gi_mgN, if_pos ⟨rfl, hj⟩, hmg1, if_pos (by assumption)]
              exact ok2 j hj
            · rw [gl_sl, if_pos ⟨rfl, rfl⟩, if_pos (by assumption)]
              show g1.2.1 38 5 + _ = h.2.1 38 5 + _
              rw [e12]
          · rw [l256, nI_leI (by omega) (by omega)] at c
            have hb : vp_in (nI k) 256 := vp_in_nI (by omega) (by omega)
            have hx : ix (nI k) = k := ixn (by omega)
            have g42 : gi (mgN g1 k) 42 k = gi g1 42 k := by rw [gi_mgN, if_neg (by simp)]
            have g41 : gi (mgN g1 k) 41 k = gi g1 41 k := by rw [gi_mgN, if_neg (by simp)]
            have g39 : gi (mgN g1 k) 39 k = gi g1 39 k := by rw [gi_mgN, if_neg (by simp)]
            refine J_aload_n (pq := 87) dX9_file_86 rfl rfl (J_getA (pq := 90) dX9_file_87 rfl f_X9_7 (by decide +kernel) (hK2.at rfl) (hR2 _ _ rfl) (J_iload_n (pq := 91) dX9_file_90 rfl rfl (J_aload_n (pq := 92) dX9_file_91 rfl rfl (J_getA (pq := 95) dX9_file_92 rfl f_X9_26 (by decide +kernel) (hK2.at rfl) (hR2 _ _ rfl) (J_iload_n (pq := 96) dX9_file_95 rfl rfl (J_zald (pq := 97) dX9_file_96 rfl (hK2.at rfl) (by assumption) (J_if_eq (pq := 100) (tgt := 109) dX9_file_97 rfl rfl (fun c => ?_) (fun c => ?_))))))))
            · rw [hx, g42] at c
              refine J_aload_n (pq := 110) dX9_file_109 rfl rfl (J_getA (pq := 113) dX9_file_110 rfl f_X9_7 (by decide +kernel) (hK2.at rfl) (hR2 _ _ rfl) (J_iload_n (pq := 114) dX9_file_113 rfl rfl (J_iald (pq := 115) dX9_file_114 rfl (hK2.at rfl) (by assumption) (J_iast (pq := 116) dX9_file_115 rfl (hK2.at rfl) (by assumption) (J_iinc (pq := 119) dX9_file_116 rfl c_iconst_1 rfl (Nat.le_of_ble_eq_true rfl) rfl (J_goto (tgt := 79) dX9_file_119 rfl (?_)))))))
              refine J_weak (by simp [lsub, nI_1]) rfl ?_ (ih (k + 1) (by omega) (by omega))
              rw [hx, g39, ← mgN_s]
              unfold mg
              rw [if_pos c]
            · rw [hx, g42] at c
              refine J_aload_n (pq := 101) dX9_file_100 rfl rfl (J_getA (pq := 104) dX9_file_101 rfl f_X9_23 (by decide +kernel) (hK2.at rfl) (hR2 _ _ rfl) (J_iload_n (pq := 105) dX9_file_104 rfl rfl (J_iald (pq := 106) dX9_file_105 rfl (hK2.at rfl) (by assumption) (J_goto (tgt := 115) dX9_file_106 rfl (J_iast (pq := 116) dX9_file_115 rfl (hK2.at rfl) (by assumption) (J_iinc (pq := 119) dX9_file_116 rfl c_iconst_1 rfl (Nat.le_of_ble_eq_true rfl) rfl (J_goto (tgt := 79) dX9_file_119 rfl (?_))))))))
              refine J_weak (by simp [lsub, nI_1]) rfl ?_ (ih (k + 1) (by omega) (by omega))
              rw [hx, g41, ← mgN_s]
              unfold mg
              rw [if_neg c]
        · rw [gi_si, if_neg (by decide), gi_si, if_pos ⟨rfl, rfl⟩, show (0 : Int32) = nI 0 from rfl, nI_eq (by omega) (by omega)] at c
          refine J_iconst (pq := 71) dX9_file_70 rfl c_iconst_m1 (J_iret dX9_file_71 rfl rfl ?_)
          rw [if_neg c]
          refine ⟨rfl, ?_, ?_, ?_, ?_, ?_, ?_, ?_, ?_, ?_⟩
          · show g.2.2 = h.2.2
            rw [e2]
          · intro a b x1 x2 x3 x4 x5
            rw [gi_si, if_neg (fun q => x1 q.1), gi_si, if_neg (fun q => x1 q.1)]
            exact hgh a b x1 x3 x4 x5
          · intro a b x1
            show g.2.1 a b = h.2.1 a b
            rw [e2]
          · intro b x1 x2 x3 x4 x5
            rw [gi_si, if_neg (fun q => x1 q.2), gi_si, if_neg (fun q => x2 q.2)]
            exact hg38 b x4 x5 x3
          · rw [gi_si, if_pos ⟨rfl, rfl⟩]
          · rw [gi_si, if_neg (by decide), gi_si, if_pos ⟨rfl, rfl⟩]
          · rw [gi_si, if_neg (by decide), gi_si, if_neg (by decide), if_neg c]
            exact hpl c
          · intro j hj
            rw [gi_si, if_neg (by simp), gi_si, if_neg (by simp), if_neg c]
            exact hgh 39 j (by decide) (by decide) (by decide) (by decide)
          · rw [if_neg c]
            show g.2.1 38 5 = h.2.1 38 5
            rw [e2]
      · rcases hfm with ⟨rfl, rfl⟩ | hfm2
        · have hRf : RR = if n ≤ 256 then (0, 0, fun j => if j < n then gi h 40 j else gi h 39 j, n) else (5, 256, gi h 39, 0) := by rw [← hRR]; rfl
          refine J_aload_n (pq := 34) dX9_file_33 rfl rfl (J_iconst (pq := 35) dX9_file_34 rfl c_iconst_0 (J_putI (pq := 38) dX9_file_35 rfl f_X9_145 (Or.inl rfl) (hK.at rfl) (J_aload_n (pq := 39) dX9_file_38 rfl rfl (J_iload_n (pq := 40) dX9_file_39 rfl rfl (J_if_ne (pq := 43) (tgt := 50) dX9_file_40 rfl rfl (fun c => ?_) (fun c => ?_))))))
          · exact absurd rfl c
          · rw [hg0]
            refine J_aload_n (pq := 44) dX9_file_43 rfl rfl (J_virtF (pq := 47) dX9_file_44 rfl (j_X9_readPlain hK0 hR0 hn0 hn4) rfl tg_X9_readPlain l_X9_172 vi_X9_readPlain (hK0.at rfl) ⟨by decide, rfl⟩ (Nat.le_of_ble_eq_true rfl) (Nat.zero_le _) (Nat.zero_le _) (Nat.le_of_ble_eq_true rfl) (?_))
            by_cases hn256 : n ≤ 256
            · rw [if_pos hn256] at hRf
              rw [if_pos hn256, if_pos hn256]
              have := k58 (plN (si g0 38 4 256) n) ⟨(FlG.pl _ _).tr (plN_F _ _).g, fun q => absurd (by rw [hRf]) q, fun _ => ⟨?_, fun j hj => ?_⟩⟩
              · have hKp : Kin (plN (si g0 38 4 256) n) := hK0.of2 (plN_F _ _).1
                refine J_goto (tgt := 55) dX9_file_47 rfl (J_putI (pq := 58) dX9_file_55 rfl f_X9_16 (Or.inl rfl) (hKp.at rfl) (?_))
                exact J_weak (by simp [lsub]) rfl (by rw [hRf]; rfl) this
              · rw [plN_c, gi_si, if_neg (by decide), h8, hRf]
                simp
              · rw [plN_m, mg_si38, hmg0 j hj, hRf]
                have : gi (si g0 38 4 256) 40 j = gi h 40 j := by rw [gi_si, if_neg (by simp), h40]
                rw [this]
            · rw [if_neg hn256] at hRf
              rw [if_neg hn256, if_neg hn256]
              have := k58 (si g0 38 4 256) ⟨FlG.pl _ _, fun _ => by rw [gi_si, if_pos ⟨rfl, rfl⟩, hRf]; rfl, fun q => by rw [hRf] at q; simp at q⟩
              refine J_goto (tgt := 55) dX9_file_47 rfl (J_putI (pq := 58) dX9_file_55 rfl f_X9_16 (Or.inl rfl) (hK0.at rfl) (?_))
              exact J_weak (by simp [lsub]) rfl (by rw [hRf]; rfl) this
        · have hRf : RR = rdl fm (gi g0 40) n (n + 1) 0 (gi h 39) 0 := by
            rw [← hRR, h40]
            unfold fileS
            rw [if_neg (by omega)]
          have hne : ¬ fI = 0 := by rcases hfm2 with ⟨-, rfl⟩ | ⟨-, rfl⟩ <;> decide
          refine J_aload_n (pq := 34) dX9_file_33 rfl rfl (J_iconst (pq := 35) dX9_file_34 rfl c_iconst_0 (J_putI (pq := 38) dX9_file_35 rfl f_X9_145 (Or.inl rfl) (hK.at rfl) (J_aload_n (pq := 39) dX9_file_38 rfl rfl (J_iload_n (pq := 40) dX9_file_39 rfl rfl (J_if_ne (pq := 43) (tgt := 50) dX9_file_40 rfl rfl (fun c => ?_) (fun c => ?_))))))
          · rw [hg0]
            refine J_aload_n (pq := 51) dX9_file_50 rfl rfl (J_iload_n (pq := 52) dX9_file_51 rfl rfl (J_virt (pq := 55) dX9_file_52 rfl (j_X9_readLines (im := gi h 39) hfm2 hK0 hR0 hn0 hn4 (by rw [h40]; exact hby) hmg0 h8) rfl tg_X9_readLines l_X9_176 vi_X9_readLines (hK0.at rfl) ⟨by decide, rfl⟩ (Nat.le_of_ble_eq_true rfl) (Nat.zero_le _) (Nat.zero_le _) (Nat.le_of_ble_eq_true rfl) (fun v g hq => ?_)))
            rw [← hRf] at hq
            obtain ⟨q1, rfl, q3, q4⟩ := hq
            have hKq : Kin g := hK0.of2 q1.1
            refine J_putI (pq := 58) dX9_file_55 rfl f_X9_16 (Or.inl rfl) (hKq.at rfl) (?_)
            exact J_weak (by simp [lsub]) rfl rfl (k58 g ⟨q1, q3, q4⟩)
          · exact absurd c hne
    · rw [l256, nI_leI (by omega) (by omega)] at c
      have hb : vp_in (nI k) 256 := vp_in_nI (by omega) (by omega)
      have hx : ix (nI k) = k := ixn (by omega)
      refine J_aload_n (pq := 21) dX9_file_20 rfl rfl (J_getA (pq := 24) dX9_file_21 rfl f_X9_26 (by decide +kernel) (hK.at rfl) (hR _ _ rfl) (J_iload_n (pq := 25) dX9_file_24 rfl rfl (J_iconst (pq := 26) dX9_file_25 rfl c_iconst_0 (J_zast (pq := 27) dX9_file_26 rfl (hK.at rfl) (by assumption) (J_iinc (pq := 30) dX9_file_27 rfl c_iconst_1 rfl (Nat.le_of_ble_eq_true rfl) rfl (J_goto (tgt := 13) dX9_file_30 rfl (?_)))))))
      refine J_weak (by simp [lsub, nI_1]) rfl ?_ (ih (k + 1) (by omega) (by omega))
      rw [hx, ← fillN_s]
      rfl
  · rw [bi_0, hi] at c; exact absurd c (by decide)
end F5
