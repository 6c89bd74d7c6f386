-- files: lines
def putN (h : JH) (A D : Nat) : Nat → JH
  | 0 => h
  | k + 1 => put1 (putN h A D k) (A + k) (gi h 43 (D + k))
/-- what the reference's image would be now -/
def mg (h : JH) (j : Nat) : Int32 := if gi h 42 j = 0 then gi h 39 j else gi h 41 j
/-- a file's scratch alone is changed -/
def FlF (h g : JH) : Prop := g.2 = h.2 ∧ ∀ a b, a ≠ 41 → a ≠ 42 → a ≠ 43 → ¬ (a = 38 ∧ (b = 8 ∨ b = 10)) → gi g a b = gi h a b
theorem FlF.rf (h : JH) : FlF h h := ⟨rfl, fun _ _ _ _ _ _ => rfl⟩
theorem FlF.tr {h g k : JH} (h1 : FlF h g) (h2 : FlF g k) : FlF h k := ⟨h2.1.trans h1.1, fun a b x1 x2 x3 x4 => (h2.2 a b x1 x2 x3 x4).trans (h1.2 a b x1 x2 x3 x4)⟩
theorem LnF.fl {h g : JH} (h1 : LnF h g) : FlF h g := ⟨h1.1, fun a b _ _ x3 _ => h1.2 a b x3⟩
theorem put1_F (h : JH) (ad : Nat) (v : Int32) : FlF h (put1 h ad v) := ⟨rfl, fun a b x1 x2 x3 x4 => by
  simp only [put1, gi_si]
  rw [if_neg (fun q => x4 ⟨q.1, Or.inl q.2⟩), if_neg (fun q => x2 q.1), if_neg (fun q => x1 q.1)]⟩
theorem put1_43 (h : JH) (ad : Nat) (v : Int32) (b : Nat) : gi (put1 h ad v) 43 b = gi h 43 b := by simp [put1, gi_si]
theorem put1_e (h : JH) (ad : Nat) (v : Int32) : gi (put1 h ad v) 38 10 = gi h 38 10 := by simp [put1, gi_si]
theorem put1_c (h : JH) (ad : Nat) (v : Int32) : gi (put1 h ad v) 38 8 = gi h 38 8 + 1 := by simp [put1, gi_si]
theorem put1_m (h : JH) (ad : Nat) (v : Int32) (j : Nat) : mg (put1 h ad v) j = if j = ad then v else mg h j := by
  unfold mg
  simp only [put1, gi_si]
  by_cases hj : j = ad
  · simp [hj]
  · simp [hj]
theorem putN_F (h : JH) (A D : Nat) : ∀ k, FlF h (putN h A D k)
  | 0 => FlF.rf h
  | k + 1 => (putN_F h A D k).tr (put1_F _ _ _)
theorem putN_43 (h : JH) (A D : Nat) (b : Nat) : ∀ k, gi (putN h A D k) 43 b = gi h 43 b
  | 0 => rfl
  | k + 1 => by rw [putN, put1_43, putN_43 h A D b k]
theorem putN_e (h : JH) (A D : Nat) : ∀ k, gi (putN h A D k) 38 10 = gi h 38 10
  | 0 => rfl
  | k + 1 => by rw [putN, put1_e, putN_e h A D k]
theorem putN_c (h : JH) (A D : Nat) : ∀ k, gi (putN h A D k) 38 8 = gi h 38 8 + nI k
  | 0 => by rw [putN, show nI 0 = 0 from nI_0]; simp
  | k + 1 => by rw [putN, put1_c, putN_c h A D k, Int32.add_assoc, nI_1]
theorem putN_m (h : JH) (A D : Nat) (j : Nat) : ∀ k, mg (putN h A D k) j = if A ≤ j ∧ j < A + k then gi h 43 (D + (j - A)) else mg h j
  | 0 => by rw [putN, if_neg (by omega)]
  | k + 1 => by
    rw [putN, put1_m, putN_m h A D j k]
    by_cases hj : j = A + k
    · subst hj
      rw [if_pos rfl, if_pos (by omega)]
      congr 1; omega
    · rw [if_neg hj]
      by_cases hc : A ≤ j ∧ j < A + k
      · rw [if_pos hc, if_pos (by omega)]
      · rw [if_neg hc, if_neg (by omega)]
def ok1 (t : Nat → Int32) (a e : Nat) : Bool := decide (t a = 58) && decide ((e - a - 1) % 2 = 0) && alld t (a + 1) e && decide (5 ≤ (e - a - 1) / 2) && decide ((e - a - 1) / 2 = pv t (a + 1) + 5) && decide (pv t (a + 7) ≤ 1) && decide (¬ (pv t (a + 7) = 1 ∧ 0 < pv t (a + 1)))
/-- a line of form 1: its fault (or 0), its kind (0 data, 1 unseen, 2 end), address, count, where the data begin -/
def lr1 (t : Nat → Int32) (a e : Nat) : Nat × Nat × Nat × Nat × Nat :=
  if ok1 t a e = true then (if psum t (a + 1) ((e - a - 1) / 2) % 256 = 0 then (if pv t (a + 7) = 1 then (0, 2, 0, 0, 0) else if 0 < pv t (a + 1) ∧ 256 < 256 * pv t (a + 3) + pv t (a + 5) + pv t (a + 1) then (3, 0, 0, 0, 0) else (0, 0, 256 * pv t (a + 3) + pv t (a + 5), pv t (a + 1), a + 9)) else (2, 0, 0, 0, 0)) else (1, 0, 0, 0, 0)
def ok2 (t : Nat → Int32) (a e : Nat) : Bool := decide (2 ≤ e - a) && decide (t a = 83) && (decide (t (a + 1) = 48) || decide (t (a + 1) = 49) || decide (t (a + 1) = 57)) && decide ((e - a - 2) % 2 = 0) && alld t (a + 2) e && decide (4 ≤ (e - a - 2) / 2) && decide ((e - a - 2) / 2 = pv t (a + 2) + 1) && decide (¬ (t (a + 1) = 57 ∧ ¬ pv t (a + 2) = 3))
def lr2 (t : Nat → Int32) (a e : Nat) : Nat × Nat × Nat × Nat × Nat :=
  if ok2 t a e = true then (if psum t (a + 2) ((e - a - 2) / 2) % 256 = 255 then (if t (a + 1) = 57 then (0, 2, 0, 0, 0) else if t (a + 1) = 49 then (if 0 < pv t (a + 2) - 3 ∧ 256 < 256 * pv t (a + 4) + pv t (a + 6) + (pv t (a + 2) - 3) then (3, 0, 0, 0, 0) else (0, 0, 256 * pv t (a + 4) + pv t (a + 6), pv t (a + 2) - 3, a + 8)) else (0, 1, 0, 0, 0)) else (2, 0, 0, 0, 0)) else (1, 0, 0, 0, 0)
/-- what a line's reading leaves behind -/
def LnP (t : Nat → Int32) (r : Nat × Nat × Nat × Nat × Nat) (h g : JH) : Prop := FlF h g ∧ (r.1 = 0 → gi g 38 10 = bi (decide (r.2.1 = 2)) ∧ gi g 38 8 = gi h 38 8 + nI r.2.2.2.1 ∧ ∀ j, j < 256 → mg g j = if r.2.2.1 ≤ j ∧ j < r.2.2.1 + r.2.2.2.1 then nI (pv t (r.2.2.2.2 + 2 * (j - r.2.2.1))) else mg h j)
theorem psum_le (t : Nat → Int32) (a : Nat) (n : Nat) (h : ∀ k, k < n → pv t (a + 2 * k) < 256) : psum t a n ≤ 255 * n := by
  induction n with
  | zero => simp [psum]
  | succ n ih =>
    have := ih (fun k hk => h k (by omega))
    have := h n (by omega)
    simp only [psum]; omega
theorem pv_all {t : Nat → Int32} {a e : Nat} (h : alld t a e = true) {k : Nat} (hk : a + 2 * k + 1 < e) : pv t (a + 2 * k) < 256 := pv_lt (alld_t.mp h _ (by omega) (by omega)) (alld_t.mp h _ (by omega) (by omega))
theorem mg_of {h g : JH} (h1 : ∀ j, gi g 42 j = gi h 42 j) (h2 : ∀ j, gi g 39 j = gi h 39 j) (h3 : ∀ j, gi g 41 j = gi h 41 j) (j : Nat) : mg g j = mg h j := by unfold mg; rw [h1, h2, h3]
section F2
variable {x : JX} {h : JH}
theorem j_X9_data {A D N : Nat} (hK : Kin h) (hR : MR h) (hA : A < 100000) (hN : D + N ≤ 200) : JF x yX9_data cX9_data 5 (some .int) 1 0 0 [.ref 38, .int (nI A), .int (nI D), .int (nI N)] h (some (.int (if 0 < N ∧ 256 < A + N then 3 else 0))) (if 0 < N ∧ 256 < A + N then h else putN h A D N) := by
  refine JM_of [some (.ref 38), some (.int (nI A)), some (.int (nI D)), some (.int (nI N)), none] (by decide) (Nat.le_of_ble_eq_true rfl) rfl ?_
  refine J_cut (σ := Unit) 15 (fun _ => [some (.ref 38), some (.int (nI A)), some (.int (nI D)), some (.int (nI N)), none]) (fun _ => []) (fun _ => h) (fun _ => ¬ (0 < N ∧ 256 < A + N)) (fun _ hc => ?_) (fun k15 => ?_)
  · rw [if_neg hc, if_neg hc]
    refine J_iconst (pq := 16) dX9_data_15 rfl c_iconst_0 (J_istore (pq := 18) dX9_data_16 rfl (Nat.le_of_ble_eq_true rfl) (Nat.le_of_ble_eq_true rfl) rfl (?_))
    refine J_loop (σ := Nat) (fun k => [some (.ref 38), some (.int (nI A)), some (.int (nI D)), some (.int (nI N)), some (.int (nI k))]) (fun _ => []) (fun k => putN h A D k) (fun k => k ≤ N) (fun k => N - k) 0 rfl rfl rfl (by omega) (fun k hk ih => ?_)
    have hF := putN_F h A D k
    have hKg : Kin (putN h A D k) := hK.of2 hF.1
    have hRg : MR (putN h A D k) := hR.of2 hF.1
    refine J_iload (pq := 20) dX9_data_18 rfl rfl (J_iload_n (pq := 21) dX9_data_20 rfl rfl (J_icmp_ge (pq := 24) (tgt := 47) dX9_data_21 rfl rfl (fun c => ?_) (fun c => ?_)))
    · rw [nI_leI (by omega) (by omega)] at c
      have hkn : k = N := by omega
      subst hkn
      refine J_iconst (pq := 48) dX9_data_47 rfl c_iconst_0 (J_iret dX9_data_48 rfl rfl ?_)
      exact ⟨rfl, rfl⟩
    · rw [nI_leI (by omega) (by omega)] at c
      have hb : vp_in (nI D + nI k) 200 := vinN (nI_add D k) (by omega) (by omega)
      have hx : ix (nI D + nI k) = D + k := by rw [nI_add, ixn (by omega)]
      refine J_aload_n (pq := 25) dX9_data_24 rfl rfl (J_iload_n (pq := 26) dX9_data_25 rfl rfl (J_iload (pq := 28) dX9_data_26 rfl rfl (J_iadd (pq := 29) dX9_data_28 rfl (J_aload_n (pq := 30) dX9_data_29 rfl rfl (J_getA (pq := 33) dX9_data_30 rfl f_X9_30 (by decide +kernel) (hKg.at rfl) (hRg _ _ rfl) (J_iload_n (pq := 34) dX9_data_33 rfl rfl (J_iload (pq := 36) dX9_data_34 rfl rfl (J_iadd (pq := 37) dX9_data_36 rfl (J_iald (pq := 38) dX9_data_37 rfl (hKg.at rfl) (by assumption) (?_))))))))))
      rw [nI_add A k, hx, putN_43]
      refine J_virtF (pq := 41) dX9_data_38 rfl (j_X9_put hKg hRg (by omega)) rfl tg_X9_put l_X9_162 vi_X9_put (hKg.at rfl) ⟨by decide, rfl⟩ (Nat.le_of_ble_eq_true rfl) (Nat.zero_le _) (Nat.zero_le _) (Nat.le_of_ble_eq_true rfl) (J_iinc (pq := 44) dX9_data_41 rfl c_iconst_1 rfl (Nat.le_of_ble_eq_true rfl) rfl (J_goto (tgt := 18) dX9_data_44 rfl (?_)))
      exact J_weak (by simp [lsub, nI_1]) rfl rfl (ih (k + 1) (by omega) (by omega))
  · refine J_iload_n (pq := 1) dX9_data_0 rfl rfl (J_if_le (pq := 4) (tgt := 15) dX9_data_1 rfl rfl (fun c => ?_) (fun c => ?_))
    · rw [show (0 : Int32) = nI 0 from rfl, nI_leI (by omega) (by omega)] at c
      exact k15 () (by omega)
    · rw [show (0 : Int32) = nI 0 from rfl, nI_leI (by omega) (by omega)] at c
      have c1 := c
      refine J_iload_n (pq := 5) dX9_data_4 rfl rfl (J_iload_n (pq := 6) dX9_data_5 rfl rfl (J_iadd (pq := 7) dX9_data_6 rfl (J_sipush (pq := 10) dX9_data_7 rfl c_sipush_256 (J_icmp_le (pq := 13) (tgt := 15) dX9_data_10 rfl rfl (fun c => ?_) (fun c => ?_)))))
      · rw [nI_add, show (256 : Int32) = nI 256 from rfl, nI_leI (by omega) (by omega)] at c
        exact k15 () (by omega)
      · rw [nI_add, show (256 : Int32) = nI 256 from rfl, nI_leI (by omega) (by omega)] at c
        refine J_iconst (pq := 14) dX9_data_13 rfl c_iconst_3 (J_iret dX9_data_14 rfl rfl ?_)
        exact ⟨by rw [if_pos (by omega)], by rw [if_pos (by omega)]⟩
theorem j_X9_lineOne {a e : Nat} (hK : Kin h) (hR : MR h) (hae : a < e) (he : e ≤ 400) : JM x yX9_lineOne cX9_lineOne 5 (some .int) 3 0 0 [.ref 38, .int (nI a), .int (nI e)] h (fun v g => v = some (.int (nI (lr1 (gi h 40) a e).1)) ∧ LnP (gi h 40) (lr1 (gi h 40) a e) h g) := by
  refine JM_of [some (.ref 38), some (.int (nI a)), some (.int (nI e)), none, none] (by decide) (Nat.le_of_ble_eq_true rfl) rfl ?_
  generalize ht : gi h 40 = t
  have hno : ∀ g, FlF h g → ok1 t a e = false → (some (Value.int 1) = some (.int (nI (lr1 t a e).1)) ∧ LnP t (lr1 t a e) h g) := by
    intro g hg hk
    unfold lr1
    rw [if_neg (by rw [hk]; decide)]
    exact ⟨rfl, hg, fun q => by simp at q⟩
  have hb0 : vp_in (nI a) 400 := vp_in_nI (by omega) (by omega)
  have hx0 : ix (nI a) = a := ixn (by omega)
  refine J_cut (σ := JH × Int32 × Option Value) 41 (fun p => [some (.ref 38), some (.int (nI a)), some (.int (nI e)), some (.int p.2.1), none]) (fun _ => []) (fun p => p.1) (fun p => FlF h p.1 ∧ ok1 t a e = false) (fun p hp => ?_) (fun k41 => ?_)
  · refine J_iconst (pq := 42) dX9_lineOne_41 rfl c_iconst_1 (J_iret dX9_lineOne_42 rfl rfl ?_)
    exact hno _ hp.1 hp.2
  have l5 : (5 : Int32) = nI 5 := rfl
  have l1 : (1 : Int32) = nI 1 := rfl
  have l0 : (0 : Int32) = nI 0 := rfl
  refine J_aload_n (pq := 1) dX9_lineOne_0 rfl rfl (J_getA (pq := 4) dX9_lineOne_1 rfl f_X9_13 (by decide +kernel) (hK.at rfl) (hR _ _ rfl) (J_iload_n (pq := 5) dX9_lineOne_4 rfl rfl (J_iald (pq := 6) dX9_lineOne_5 rfl (hK.at rfl) (by assumption) (J_bipush (pq := 8) dX9_lineOne_6 rfl c_bipush_58 (J_icmp_ne (pq := 11) (tgt := 22) dX9_lineOne_8 rfl rfl (fun c => ?_) (fun c => ?_))))))
  · rw [hx0, ht] at c
    have hc58 := c
    refine J_iconst (pq := 23) dX9_lineOne_22 rfl c_iconst_m1 (J_istore_m 3 (pq := 24) dX9_lineOne_23 rfl rfl (Nat.le_of_ble_eq_true rfl) (Nat.le_of_ble_eq_true rfl) rfl (J_iload_n (pq := 25) dX9_lineOne_24 rfl rfl (J_iconst (pq := 26) dX9_lineOne_25 rfl c_iconst_5 (J_icmp_lt (pq := 29) (tgt := 41) dX9_lineOne_26 rfl rfl (fun c => ?_) (fun c => ?_)))))
    · exact k41 (h, -1, none) ⟨FlF.rf h, by unfold ok1; rw [decide_eq_false hc58]; simp⟩
    · exact absurd (by decide) c
  · rw [hx0, ht] at c
    have c58 := c
    refine J_aload_n (pq := 12) dX9_lineOne_11 rfl rfl (J_iload_n (pq := 13) dX9_lineOne_12 rfl rfl (J_iconst (pq := 14) dX9_lineOne_13 rfl c_iconst_1 (J_iadd (pq := 15) dX9_lineOne_14 rfl (J_iload_n (pq := 16) dX9_lineOne_15 rfl rfl (?_)))))
    rw [nI_1]
    refine J_virt (pq := 19) dX9_lineOne_16 rfl (j_X9_bytes hK hR (show a + 1 ≤ e by omega) he) rfl tg_X9_bytes l_X9_148 vi_X9_bytes (hK.at rfl) ⟨by decide, rfl⟩ (Nat.le_of_ble_eq_true rfl) (Nat.zero_le _) (Nat.zero_le _) (Nat.le_of_ble_eq_true rfl) (fun v g hq => ?_)
    rw [ht] at hq
    obtain ⟨hLn, hq⟩ := hq
    have hF := hLn.fl
    have hKg : Kin g := hK.of2 hF.1
    have hRg : MR g := hR.of2 hF.1
    rcases hq with ⟨hev, hall, rfl, hln⟩ | ⟨hnot, rfl⟩
    · rw [show e - (a + 1) = e - a - 1 by omega] at hev hln ⊢
      refine J_goto (tgt := 23) dX9_lineOne_19 rfl (J_istore_m 3 (pq := 24) dX9_lineOne_23 rfl rfl (Nat.le_of_ble_eq_true rfl) (Nat.le_of_ble_eq_true rfl) rfl (J_iload_n (pq := 25) dX9_lineOne_24 rfl rfl (J_iconst (pq := 26) dX9_lineOne_25 rfl c_iconst_5 (J_icmp_lt (pq := 29) (tgt := 41) dX9_lineOne_26 rfl rfl (fun c => ?_) (fun c => ?_)))))
      · rw [l5, nI_ltI (by omega) (by omega)] at c
        exact k41 (g, _, none) ⟨hF, by unfold ok1; simp [show ¬ 5 ≤ (e - a - 1) / 2 by omega]⟩
      · rw [l5, nI_ltI (by omega) (by omega)] at c
        have c5 := c
        have h0 : gi g 43 0 = nI (pv t (a + 1)) := hln 0 (by omega)
        have h1 : gi g 43 1 = nI (pv t (a + 3)) := hln 1 (by omega)
        have h2 : gi g 43 2 = nI (pv t (a + 5)) := hln 2 (by omega)
        have h3 : gi g 43 3 = nI (pv t (a + 7)) := hln 3 (by omega)
        have p0 : pv t (a + 1) < 256 := pv_all hall (k := 0) (by omega)
        have p1 : pv t (a + 3) < 256 := pv_all hall (k := 1) (by omega)
        have p2 : pv t (a + 5) < 256 := pv_all hall (k := 2) (by omega)
        have p3 : pv t (a + 7) < 256 := pv_all hall (k := 3) (by omega)
        have v0 : vp_in 0 200 := vinN l0 (by omega) (by omega)
        have v1 : vp_in 1 200 := vinN l1 (by omega) (by omega)
        have v2 : vp_in 2 200 := vinN (show (2 : Int32) = nI 2 from rfl) (by omega) (by omega)
        have v3 : vp_in 3 200 := vinN (show (3 : Int32) = nI 3 from rfl) (by omega) (by omega)
        have i0 : ix 0 = 0 := rfl
        have i1 : ix 1 = 1 := rfl
        have i2 : ix 2 = 2 := rfl
        have i3 : ix 3 = 3 := rfl
        refine J_iload_n (pq := 30) dX9_lineOne_29 rfl rfl (J_aload_n (pq := 31) dX9_lineOne_30 rfl rfl (J_getA (pq := 34) dX9_lineOne_31 rfl f_X9_30 (by decide +kernel) (hKg.at rfl) (hRg _ _ rfl) (J_iconst (pq := 35) dX9_lineOne_34 rfl c_iconst_0 (J_iald (pq := 36) dX9_lineOne_35 rfl (hKg.at rfl) (by assumption) (J_iconst (pq := 37) dX9_lineOne_36 rfl c_iconst_5 (J_iadd (pq := 38) dX9_lineOne_37 rfl (J_icmp_eq (pq := 41) (tgt := 43) dX9_lineOne_38 rfl rfl (fun c => ?_) (fun c => ?_))))))))
        · rw [i0, h0, l5, nI_add, nI_eq (by omega) (by omega)] at c
          have cN := c
          refine J_cut (σ := Unit) 72 (fun p => [some (.ref 38), some (.int (nI a)), some (.int (nI e)), none, none]) (fun _ => []) (fun p => g) (fun _ => ok1 t a e = false) (fun _ hp => ?_) (fun k72 => ?_)
          · refine J_iconst (pq := 73) dX9_lineOne_72 rfl c_iconst_1 (J_iret dX9_lineOne_73 rfl rfl ?_)
            exact hno _ hF hp
          refine J_aload_n (pq := 44) dX9_lineOne_43 rfl rfl (J_getA (pq := 47) dX9_lineOne_44 rfl f_X9_30 (by decide +kernel) (hKg.at rfl) (hRg _ _ rfl) (J_iconst (pq := 48) dX9_lineOne_47 rfl c_iconst_3 (J_iald (pq := 49) dX9_lineOne_48 rfl (hKg.at rfl) (by assumption) (J_istore (pq := 51) dX9_lineOne_49 rfl (Nat.le_of_ble_eq_true rfl) (Nat.le_of_ble_eq_true rfl) rfl (J_iload (pq := 53) dX9_lineOne_51 rfl rfl (J_iconst (pq := 54) dX9_lineOne_53 rfl c_iconst_1 (J_icmp_gt (pq := 57) (tgt := 72) dX9_lineOne_54 rfl rfl (fun c => ?_) (fun c => ?_))))))))
          · rw [i3, h3, l1, nI_ltI (by omega) (by omega)] at c
            exact J_weak (by simp [lsub]) rfl rfl (k72 () (by unfold ok1; simp [show ¬ pv t (a + 7) ≤ 1 by omega]))
          · rw [i3, h3, l1, nI_ltI (by omega) (by omega)] at c
            have c1 := c
            refine J_cut (σ := Unit) 74 (fun p => [some (.ref 38), some (.int (nI a)), some (.int (nI e)), some (.int (nI ((e - a - 1) / 2))), some (.int (nI (pv t (a + 7))))]) (fun _ => []) (fun p => g) (fun _ => ¬ (pv t (a + 7) = 1 ∧ 0 < pv t (a + 1))) (fun _ hp => ?_) (fun k74 => ?_)
            · have hok : ok1 t a e = true := by
                unfold ok1
                simp only [Bool.and_eq_true, decide_eq_true_eq]
                exact ⟨⟨⟨⟨⟨⟨c58, hev⟩, hall⟩, by omega⟩, cN⟩, by omega⟩, hp⟩
              have hps : psum t (a + 1) ((e - a - 1) / 2) ≤ 255 * ((e - a - 1) / 2) := psum_le t (a + 1) _ (fun k hk => pv_all hall (by omega))
              refine J_aload_n (pq := 75) dX9_lineOne_74 rfl rfl (J_iload_n (pq := 76) dX9_lineOne_75 rfl rfl (J_virtF (pq := 79) dX9_lineOne_76 rfl (j_X9_sumOf hKg hRg (by omega) hln (by omega)) rfl tg_X9_sumOf l_X9_152 vi_X9_sumOf (hKg.at rfl) ⟨by decide, rfl⟩ (Nat.le_of_ble_eq_true rfl) (Nat.zero_le _) (Nat.zero_le _) (Nat.le_of_ble_eq_true rfl) (J_if_eq (pq := 82) (tgt := 84) dX9_lineOne_79 rfl rfl (fun c => ?_) (fun c => ?_))))
              · rw [l0, nI_eq (by omega) (by omega)] at c
                have cs := c
                refine J_aload_n (pq := 85) dX9_lineOne_84 rfl rfl (J_iload (pq := 87) dX9_lineOne_85 rfl rfl (J_iconst (pq := 88) dX9_lineOne_87 rfl c_iconst_1 (J_icmp_ne (pq := 91) (tgt := 95) dX9_lineOne_88 rfl rfl (fun c => ?_) (fun c => ?_))))
                · rw [l1, nI_eq (by omega) (by omega)] at c
                  have ct := c
                  have hlr : lr1 t a e = if 0 < pv t (a + 1) ∧ 256 < 256 * pv t (a + 3) + pv t (a + 5) + pv t (a + 1) then (3, 0, 0, 0, 0) else (0, 0, 256 * pv t (a + 3) + pv t (a + 5), pv t (a + 1), a + 9) := by
                    unfold lr1
                    rw [if_pos hok, if_pos cs, if_neg ct]
                  refine J_iconst (pq := 96) dX9_lineOne_95 rfl c_iconst_0 (J_putZ (pq := 99) dX9_lineOne_96 rfl f_X9_155 (Or.inl rfl) (hKg.at rfl) (by first | exact bi_or _ | exact Or.inl rfl | exact Or.inr rfl | assumption) (J_iload (pq := 101) dX9_lineOne_99 rfl rfl (J_iconst (pq := 102) dX9_lineOne_101 rfl c_iconst_1 (J_icmp_ne (pq := 105) (tgt := 109) dX9_lineOne_102 rfl rfl (fun c => ?_) (fun c => ?_)))))
                  · have hga : (256 : Int32) * gi (si g 38 10 0) 43 (ix 1) + gi (si g 38 10 0) 43 (ix 2) = nI (256 * pv t (a + 3) + pv t (a + 5)) := by
                      rw [gi_si, gi_si, if_neg (by decide), if_neg (by decide), i1, i2, h1, h2, show (256 : Int32) = nI 256 from rfl, pk_mul, nI_add]
                    have hgn : gi (si g 38 10 0) 43 (ix 0) = nI (pv t (a + 1)) := by rw [gi_si, if_neg (by decide), i0, h0]
                    refine J_aload_n (pq := 110) dX9_lineOne_109 rfl rfl (J_sipush (pq := 113) dX9_lineOne_110 rfl c_sipush_256 (J_aload_n (pq := 114) dX9_lineOne_113 rfl rfl (J_getA (pq := 117) dX9_lineOne_114 rfl f_X9_30 (by decide +kernel) (hKg.at rfl) (hRg _ _ rfl) (J_iconst (pq := 118) dX9_lineOne_117 rfl c_iconst_1 (J_iald (pq := 119) dX9_lineOne_118 rfl (hKg.at rfl) (by assumption) (J_imul (pq := 120) dX9_lineOne_119 rfl (J_aload_n (pq := 121) dX9_lineOne_120 rfl rfl (J_getA (pq := 124) dX9_lineOne_121 rfl f_X9_30 (by decide +kernel) (hKg.at rfl) (hRg _ _ rfl) (J_iconst (pq := 125) dX9_lineOne_124 rfl c_iconst_2 (J_iald (pq := 126) dX9_lineOne_125 rfl (hKg.at rfl) (by assumption) (J_iadd (pq := 127) dX9_lineOne_126 rfl (J_iconst (pq := 128) dX9_lineOne_127 rfl c_iconst_4 (J_aload_n (pq := 129) dX9_lineOne_128 rfl rfl (J_getA (pq := 132) dX9_lineOne_129 rfl f_X9_30 (by decide +kernel) (hKg.at rfl) (hRg _ _ rfl) (J_iconst (pq := 133) dX9_lineOne_132 rfl c_iconst_0 (J_iald (pq := 134) dX9_lineOne_133 rfl (hKg.at rfl) (by assumption) (?_)))))))))))))))))
                    rw [hga, hgn]
                    refine J_virtF (pq := 137) dX9_lineOne_134 rfl (j_X9_data (h := si g 38 10 0) (D := 4) hKg hRg (by omega) (by omega)) rfl tg_X9_data l_X9_159 vi_X9_data (hKg.at rfl) ⟨by decide, rfl⟩ (Nat.le_of_ble_eq_true rfl) (Nat.zero_le _) (Nat.zero_le _) (Nat.le_of_ble_eq_true rfl) (J_iret dX9_lineOne_137 rfl rfl ?_)
                    have hF0 : FlF h (si g 38 10 0) := hF.tr ⟨rfl, fun u v _ _ _ x4 => by rw [gi_si, if_neg (fun q => x4 ⟨q.1, Or.inr q.2⟩)]⟩
                    rw [hlr]
                    by_cases hov : 0 < pv t (a + 1) ∧ 256 < 256 * pv t (a + 3) + pv t (a + 5) + pv t (a + 1)
                    · rw [if_pos hov, if_pos hov, if_pos hov]
                      exact ⟨rfl, hF0, fun q => by simp at q⟩
                    · rw [if_neg hov, if_neg hov, if_neg hov]
                      refine ⟨rfl, hF0.tr (putN_F _ _ _ _), fun _ => ⟨?_, ?_, fun j hj => ?_⟩⟩
                      · rw [putN_e, gi_si, if_pos ⟨rfl, rfl⟩]; rfl
                      · rw [putN_c, gi_si, if_neg (by decide), hLn.2 38 8 (by decide)]
                      · rw [putN_m]
                        have hmg : mg (si g 38 10 0) j = mg h j := mg_of (fun j => by rw [gi_si, if_neg (by simp)]; exact hLn.2 42 j (by decide)) (fun j => by rw [gi_si, if_neg (by simp)]; exact hLn.2 39 j (by decide)) (fun j => by rw [gi_si, if_neg (by simp)]; exact hLn.2 41 j (by decide)) j
                        rw [hmg]
                        by_cases hcj : 256 * pv t (a + 3) + pv t (a + 5) ≤ j ∧ j < 256 * pv t (a + 3) + pv t (a + 5) + pv t (a + 1)
                        · rw [if_pos hcj, if_pos hcj, gi_si, if_neg (by simp), hln _ (by omega)]
                          exact congrArg (fun z => nI (pv t z)) (by simp only; omega)
                        · rw [if_neg hcj, if_neg hcj]
                  · rw [l1, nI_eq (by omega) (by omega)] at c; exact absurd c ct
                · rw [l1, nI_eq (by omega) (by omega)] at c
                  have ct := c
                  refine J_iconst (pq := 92) dX9_lineOne_91 rfl c_iconst_1 (J_goto (tgt := 96) dX9_lineOne_92 rfl (J_putZ (pq := 99) dX9_lineOne_96 rfl f_X9_155 (Or.inl rfl) (hKg.at rfl) (by first | exact bi_or _ | exact Or.inl rfl | exact Or.inr rfl | assumption) (J_iload (pq := 101) dX9_lineOne_99 rfl rfl (J_iconst (pq := 102) dX9_lineOne_101 rfl c_iconst_1 (J_icmp_ne (pq := 105) (tgt := 109) dX9_lineOne_102 rfl rfl (fun c => ?_) (fun c => ?_))))))
                  · rw [l1, nI_eq (by omega) (by omega)] at c; exact absurd ct c
                  · refine J_iconst (pq := 106) dX9_lineOne_105 rfl c_iconst_0 (J_goto (tgt := 137) dX9_lineOne_106 rfl (J_iret dX9_lineOne_137 rfl rfl ?_))
                    have hlr : lr1 t a e = (0, 2, 0, 0, 0) := by
                      unfold lr1
                      rw [if_pos hok, if_pos cs, if_pos ct]
                    rw [hlr]
                    refine ⟨rfl, hF.tr ⟨rfl, fun u v _ _ _ x4 => by rw [gi_si, if_neg (fun q => x4 ⟨q.1, Or.inr q.2⟩)]⟩, fun _ => ⟨?_, ?_, fun j hj => ?_⟩⟩
                    · rw [gi_si, if_pos ⟨rfl, rfl⟩]; rfl
                    · rw [gi_si, if_neg (by decide), hLn.2 38 8 (by decide)]
                      show gi h 38 8 = gi h 38 8 + nI 0
                      rw [nI_0]; simp
                    · rw [if_neg (by simp)]
                      exact mg_of (fun j => by rw [gi_si, if_neg (by simp)]; exact hLn.2 42 j (by decide)) (fun j => by rw [gi_si, if_neg (by simp)]; exact hLn.2 39 j (by decide)) (fun j => by rw [gi_si, if_neg (by simp)]; exact hLn.2 41 j (by decide)) j
              · rw [l0, nI_eq (by omega) (by omega)] at c
                refine J_iconst (pq := 83) dX9_lineOne_82 rfl c_iconst_2 (J_iret dX9_lineOne_83 rfl rfl ?_)
                have hlr : lr1 t a e = (2, 0, 0, 0, 0) := by
                  unfold lr1
                  rw [if_pos hok, if_neg c]
                rw [hlr]
                exact ⟨rfl, hF, fun q => by simp at q⟩
            refine J_iload (pq := 59) dX9_lineOne_57 rfl rfl (J_iconst (pq := 60) dX9_lineOne_59 rfl c_iconst_1 (J_icmp_ne (pq := 63) (tgt := 74) dX9_lineOne_60 rfl rfl (fun c => ?_) (fun c => ?_)))
            · rw [i3, h3, l1, nI_eq (by omega) (by omega)] at c
              exact J_weak (by simp [lsub]; rw [i3, h3]) rfl rfl (k74 () (by omega))
            · rw [i3, h3, l1, nI_eq (by omega) (by omega)] at c
              have ct := c
              refine J_aload_n (pq := 64) dX9_lineOne_63 rfl rfl (J_getA (pq := 67) dX9_lineOne_64 rfl f_X9_30 (by decide +kernel) (hKg.at rfl) (hRg _ _ rfl) (J_iconst (pq := 68) dX9_lineOne_67 rfl c_iconst_0 (J_iald (pq := 69) dX9_lineOne_68 rfl (hKg.at rfl) (by assumption) (J_if_le (pq := 72) (tgt := 74) dX9_lineOne_69 rfl rfl (fun c => ?_) (fun c => ?_)))))
              · rw [i0, h0, l0, nI_leI (by omega) (by omega)] at c
                exact J_weak (by simp [lsub]; rw [i3, h3]) rfl rfl (k74 () (by omega))
              · rw [i0, h0, l0, nI_leI (by omega) (by omega)] at c
                exact J_weak (by simp [lsub]) rfl rfl (k72 () (by unfold ok1; simp [ct, show 0 < pv t (a + 1) by omega]))
        · rw [i0, h0, l5, nI_add, nI_eq (by omega) (by omega)] at c
          exact k41 (g, _, none) ⟨hF, by unfold ok1; simp [c]⟩
    · refine J_goto (tgt := 23) dX9_lineOne_19 rfl (J_istore_m 3 (pq := 24) dX9_lineOne_23 rfl rfl (Nat.le_of_ble_eq_true rfl) (Nat.le_of_ble_eq_true rfl) rfl (J_iload_n (pq := 25) dX9_lineOne_24 rfl rfl (J_iconst (pq := 26) dX9_lineOne_25 rfl c_iconst_5 (J_icmp_lt (pq := 29) (tgt := 41) dX9_lineOne_26 rfl rfl (fun c => ?_) (fun c => ?_)))))
      · refine k41 (g, _, none) ⟨hF, ?_⟩
        rw [show e - (a + 1) = e - a - 1 by omega] at hnot
        unfold ok1
        cases h1 : ok1 t a e with
        | false => exact h1
        | true =>
          unfold ok1 at h1
          simp only [Bool.and_eq_true, decide_eq_true_eq] at h1
          exact absurd ⟨h1.1.1.1.1.1.2, h1.1.1.1.1.2⟩ hnot
      · exact absurd (by decide) c
end F2
