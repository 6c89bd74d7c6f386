-- the class: a chip is made
theorem al_at {g : JH} {o : Nat} {p r : Nat × Nat} (hb : (kd g)[o]? = some r) : (kd (al g p))[o]? = some r := by
  rw [al_kd, List.getElem?_append_left (List.getElem?_eq_some_iff.mp hb).1]; exact hb
theorem al_new {g : JH} {o : Nat} {p : Nat × Nat} (ho : (kd g).length = o) : (kd (al g p))[o]? = some p := by
  rw [al_kd, ← ho]; simp
theorem al_len {g : JH} {o : Nat} {p : Nat × Nat} (ho : (kd g).length = o) : (kd (al g p)).length = o + 1 := by
  rw [al_kd, List.length_append, ho]; rfl
def ch0 (h : JH) : JH := al h (0, 17)
def ch1 (h : JH) (q : Nat) : JH := sr (al (ch0 h) (52, 8)) q 13 (some (q + 1))
def ch2 (h : JH) (q : Nat) : JH := sr (al (ch1 h q) (52, 28)) q 14 (some (q + 2))
def ch3 (h : JH) (q s : Nat) (id er : Int32) : JH := si (si (si (ch2 h q) q 0 (nI (8 * s))) q 1 id) q 2 er
def ch4 (h : JH) (q s : Nat) (id er : Int32) : JH := sr (al (ch3 h q s id er) (50, 8 * s)) q 8 (some (q + 3))
def ch5 (h : JH) (q s : Nat) (id er : Int32) : JH := sr (al (ch4 h q s id er) (50, 8 * s)) q 9 (some (q + 4))
def ch6 (h : JH) (q s : Nat) (id er : Int32) : JH := sr (al (ch5 h q s id er) (50, 8 * s)) q 10 (some (q + 5))
def ch7 (h : JH) (q s : Nat) (id er : Int32) : JH := sr (al (ch6 h q s id er) (50, 8 * s)) q 11 (some (q + 6))
def ch8 (h : JH) (q s : Nat) (id er : Int32) : JH := sr (al (ch7 h q s id er) (50, 8 * s)) q 12 (some (q + 7))
def ch9 (h : JH) (q s : Nat) (id er : Int32) : JH := fillN (fillN (fillN (fillN (ch8 h q s id er) (q + 3) (8 * s) 255) (q + 4) (8 * s) 255) (q + 5) (8 * s) 3) (q + 7) (8 * s) (-1)
def szOk (sz : Int32) : Bool := isin sz 8 64 && decide (sz - sz / 8 * 8 = 0)
theorem szOk_n {sz : Int32} (hs : szOk sz = true) : ∃ s, 1 ≤ s ∧ s ≤ 8 ∧ sz = nI (8 * s) := by
  unfold szOk at hs
  rw [Bool.and_eq_true, isin_t, decide_eq_true_eq, show (8 : Int32).toInt = 8 from rfl, show (64 : Int32).toInt = 64 from rfl] at hs
  obtain ⟨n, hn, rfl⟩ := nI_of (x := sz) (by rw [Int32.lt_iff_toInt_lt]; simp; omega)
  rw [nI_toInt hn, ir8 hn, show (0 : Int32) = nI 0 from rfl, nI_eq (by omega) (by omega)] at hs
  exact ⟨n / 8, by omega, by omega, by rw [show 8 * (n / 8) = n by omega]⟩
theorem szOk_t {s : Nat} (h1 : 1 ≤ s) (h2 : s ≤ 8) : szOk (nI (8 * s)) = true := by
  unfold szOk
  rw [ir8 (by omega), Bool.and_eq_true, isin_t, decide_eq_true_eq, nI_toInt (by omega), show (8 : Int32).toInt = 8 from rfl, show (64 : Int32).toInt = 64 from rfl]
  exact ⟨by omega, by rw [show 8 * s % 8 = 0 by omega]; rfl⟩
section D6
variable {x : JX} {h : JH} {q s : Nat}
theorem j_X8_isSize {v : Int32} : JF x yX8_isSize cX8_isSize 1 (some .boolean) 1 0 0 [.int v] h (some (.int (bi (szOk v)))) h := by
  refine JM_of [some (.int v)] (by decide) (Nat.le_of_ble_eq_true rfl) rfl ?_
  unfold szOk
  refine J_iload_n (pq := 1) dX8_isSize_0 rfl rfl (J_bipush (pq := 3) dX8_isSize_1 rfl c_bipush_8 (J_bipush (pq := 5) dX8_isSize_3 rfl c_bipush_64 (J_statF (pq := 8) dX8_isSize_5 rfl (j_X8_isWithin) rfl tg_X8_isWithin l_X8_87 st_X8_isWithin (Nat.le_of_ble_eq_true rfl) (Nat.zero_le _) (Nat.zero_le _) (Nat.le_of_ble_eq_true rfl) (J_if_eq (pq := 11) (tgt := 22) dX8_isSize_8 rfl rfl (fun c => ?_) (fun c => ?_)))))
  · rw [bi_0] at c
    refine J_iconst (pq := 23) dX8_isSize_22 rfl c_iconst_0 (J_iret dX8_isSize_23 rfl (by first | rfl | exact bi_nar _) ?_)
    rw [c]; exact ⟨rfl, rfl⟩
  · rw [bi_0, Bool.not_eq_false] at c
    have c1 := c
    refine J_iload_n (pq := 12) dX8_isSize_11 rfl rfl (J_bipush (pq := 14) dX8_isSize_12 rfl c_bipush_8 (J_irem (pq := 15) dX8_isSize_14 rfl (by decide) (J_if_ne (pq := 18) (tgt := 22) dX8_isSize_15 rfl rfl (fun c => ?_) (fun c => ?_))))
    · refine J_iconst (pq := 23) dX8_isSize_22 rfl c_iconst_0 (J_iret dX8_isSize_23 rfl (by first | rfl | exact bi_nar _) ?_)
      rw [c1, decide_eq_false c]; exact ⟨rfl, rfl⟩
    · refine J_iconst (pq := 19) dX8_isSize_18 rfl c_iconst_1 (J_goto (tgt := 23) dX8_isSize_19 rfl (J_iret dX8_isSize_23 rfl (by first | rfl | exact bi_nar _) ?_))
      rw [c1, decide_eq_true c]; exact ⟨rfl, rfl⟩
theorem j_X0_init {id er : Int32} (hq : (kd h).length = q) (hll : (kd h).length + 8 < 1000000000) (hs1 : 1 ≤ s) (hs2 : s ≤ 8) (her : er = 0 ∨ er = 1) : JF x yX0_init cX0_init 4 none 2 7 356 [.ref q, .int (nI (8 * s)), .int id, .int er] (ch0 h) none (ch9 h q s id er) := by
  refine JM_of [some (.ref q), some (.int (nI (8 * s))), some (.int id), some (.int er)] (by decide) (Nat.le_of_ble_eq_true rfl) rfl ?_
  have l0 : (kd (ch0 h)).length = q + 1 := al_len hq
  have l1 : (kd (ch1 h q)).length = q + 2 := al_len l0
  have l2 : (kd (ch2 h q)).length = q + 3 := al_len l1
  have l3 : (kd (ch3 h q s id er)).length = q + 3 := l2
  have l4 : (kd (ch4 h q s id er)).length = q + 4 := al_len l3
  have l5 : (kd (ch5 h q s id er)).length = q + 5 := al_len l4
  have l6 : (kd (ch6 h q s id er)).length = q + 6 := al_len l5
  have l7 : (kd (ch7 h q s id er)).length = q + 7 := al_len l6
  have k0 : (kd (ch0 h))[q]? = some (0, 17) := al_new hq
  have k1 : (kd (ch1 h q))[q]? = some (0, 17) := al_at k0
  have k2 : (kd (ch2 h q))[q]? = some (0, 17) := al_at k1
  have k3 : (kd (ch3 h q s id er))[q]? = some (0, 17) := k2
  have k4 : (kd (ch4 h q s id er))[q]? = some (0, 17) := al_at k3
  have k5 : (kd (ch5 h q s id er))[q]? = some (0, 17) := al_at k4
  have k6 : (kd (ch6 h q s id er))[q]? = some (0, 17) := al_at k5
  have k7 : (kd (ch7 h q s id er))[q]? = some (0, 17) := al_at k6
  have k8 : (kd (ch8 h q s id er))[q]? = some (0, 17) := al_at k7
  have z3 : gi (ch3 h q s id er) q 0 = nI (8 * s) := by simp [ch3, gi_si]
  have za : ∀ (g : JH) p (r : Nat → JH), (kd g).length = p → q < p → gi (al g (50, 8 * s)) q 0 = gi g q 0 := fun g p r hp hl => by
    show (if q = (kd g).length then 0 else gi g q 0) = _
    rw [if_neg (by omega)]
  have z4 : gi (ch4 h q s id er) q 0 = nI (8 * s) := (za _ _ (fun _ => h) l3 (by omega)).trans z3
  have z5 : gi (ch5 h q s id er) q 0 = nI (8 * s) := (za _ _ (fun _ => h) l4 (by omega)).trans z4
  have z6 : gi (ch6 h q s id er) q 0 = nI (8 * s) := (za _ _ (fun _ => h) l5 (by omega)).trans z5
  have z7 : gi (ch7 h q s id er) q 0 = nI (8 * s) := (za _ _ (fun _ => h) l6 (by omega)).trans z6
  have nn : ¬ nI (8 * s) < 0 := by rw [show (0 : Int32) = nI 0 from rfl, nI_ltI (by omega) (by omega)]; omega
  have nx : ix (nI (8 * s)) = 8 * s := ixn (by omega)
  refine J_aload_n (pq := 1) dX0_init_0 rfl rfl (J_obj (pq := 4) dX0_init_1 rfl lo_X0_3 obI obC k0 (Nat.le_of_ble_eq_true rfl) (Nat.le_of_ble_eq_true rfl) (J_aload_n (pq := 5) dX0_init_4 rfl rfl (J_bipush (pq := 7) dX0_init_5 rfl c_bipush_8 (J_newa (q := 52) (n := 8) (pq := 9) dX0_init_7 rfl (Or.inr (Or.inr ⟨rfl, rfl⟩)) rfl ac_boolean (by decide) rfl (by decide) (by rw [l0]; omega) (Nat.le_of_ble_eq_true rfl) (Nat.le_of_ble_eq_true rfl) (?_)))))
  rw [l0]
  refine J_putR (pq := 12) dX0_init_9 rfl f_X0_9 (Or.inr ⟨rfl, _, rfl, rfl⟩) k1 rf_AZ (?_)
  refine J_eq (h' := ch1 h q) rfl rfl rfl ?_
  refine J_aload_n (pq := 13) dX0_init_12 rfl rfl (J_bipush (pq := 15) dX0_init_13 rfl c_bipush_28 (J_newa (q := 52) (n := 28) (pq := 17) dX0_init_15 rfl (Or.inr (Or.inr ⟨rfl, rfl⟩)) rfl ac_boolean (by decide) rfl (by decide) (by rw [l1]; omega) (Nat.le_of_ble_eq_true rfl) (Nat.le_of_ble_eq_true rfl) (?_)))
  rw [l1]
  refine J_putR (pq := 20) dX0_init_17 rfl f_X0_15 (Or.inr ⟨rfl, _, rfl, rfl⟩) k2 rf_AZ (J_aload_n (pq := 21) dX0_init_20 rfl rfl (J_iload_n (pq := 22) dX0_init_21 rfl rfl (J_statF (pq := 25) dX0_init_22 rfl (j_X8_isSize) rfl tg_X8_isSize l_X0_18 st_X8_isSize (Nat.le_of_ble_eq_true rfl) (Nat.zero_le _) (Nat.zero_le _) (Nat.le_of_ble_eq_true rfl) (J_if_eq (pq := 28) (tgt := 32) dX0_init_25 rfl rfl (fun c => ?_) (fun c => ?_)))))
  · rw [szOk_t hs1 hs2] at c; exact absurd c (by decide)
  refine J_iload_n (pq := 29) dX0_init_28 rfl rfl (J_goto (tgt := 34) dX0_init_29 rfl (J_putI (pq := 37) dX0_init_34 rfl f_X0_22 (Or.inr ⟨rfl, _, rfl, rfl⟩) k2 (J_aload_n (pq := 38) dX0_init_37 rfl rfl (J_iload_n (pq := 39) dX0_init_38 rfl rfl (J_putI (pq := 42) dX0_init_39 rfl f_X0_26 (Or.inr ⟨rfl, _, rfl, rfl⟩) k2 (J_aload_n (pq := 43) dX0_init_42 rfl rfl (J_iload_n (pq := 44) dX0_init_43 rfl rfl (J_putZ (pq := 47) dX0_init_44 rfl f_X0_29 (Or.inr ⟨rfl, _, rfl, rfl⟩) k2 (by first | exact bi_or _ | exact Or.inl rfl | exact Or.inr rfl | assumption) (?_)))))))))
  refine J_eq (h' := ch3 h q s id er) rfl rfl rfl ?_
  refine J_aload_n (pq := 48) dX0_init_47 rfl rfl (J_aload_n (pq := 49) dX0_init_48 rfl rfl (J_getI (pq := 52) dX0_init_49 rfl f_X0_22 jsI k3 (?_)))
  rw [z3]
  refine J_newa (q := 50) (n := 8 * s) (pq := 54) dX0_init_52 rfl (Or.inl ⟨rfl, rfl⟩) rfl ac_int nn nx (by omega) (by rw [l3]; omega) (by omega) (by omega) (?_)
  rw [l3]
  refine J_putR (pq := 57) dX0_init_54 rfl f_X0_33 (Or.inr ⟨rfl, _, rfl, rfl⟩) k4 rf_AI (?_)
  refine J_eq (h' := ch4 h q s id er) rfl rfl rfl ?_
  refine J_aload_n (pq := 58) dX0_init_57 rfl rfl (J_aload_n (pq := 59) dX0_init_58 rfl rfl (J_getI (pq := 62) dX0_init_59 rfl f_X0_22 jsI k4 (?_)))
  rw [z4]
  refine J_newa (q := 50) (n := 8 * s) (pq := 64) dX0_init_62 rfl (Or.inl ⟨rfl, rfl⟩) rfl ac_int nn nx (by omega) (by rw [l4]; omega) (by omega) (by omega) (?_)
  rw [l4]
  refine J_putR (pq := 67) dX0_init_64 rfl f_X0_37 (Or.inr ⟨rfl, _, rfl, rfl⟩) k5 rf_AI (?_)
  refine J_eq (h' := ch5 h q s id er) rfl rfl rfl ?_
  refine J_aload_n (pq := 68) dX0_init_67 rfl rfl (J_aload_n (pq := 69) dX0_init_68 rfl rfl (J_getI (pq := 72) dX0_init_69 rfl f_X0_22 jsI k5 (?_)))
  rw [z5]
  refine J_newa (q := 50) (n := 8 * s) (pq := 74) dX0_init_72 rfl (Or.inl ⟨rfl, rfl⟩) rfl ac_int nn nx (by omega) (by rw [l5]; omega) (by omega) (by omega) (?_)
  rw [l5]
  refine J_putR (pq := 77) dX0_init_74 rfl f_X0_40 (Or.inr ⟨rfl, _, rfl, rfl⟩) k6 rf_AI (?_)
  refine J_eq (h' := ch6 h q s id er) rfl rfl rfl ?_
  refine J_aload_n (pq := 78) dX0_init_77 rfl rfl (J_aload_n (pq := 79) dX0_init_78 rfl rfl (J_getI (pq := 82) dX0_init_79 rfl f_X0_22 jsI k6 (?_)))
  rw [z6]
  refine J_newa (q := 50) (n := 8 * s) (pq := 84) dX0_init_82 rfl (Or.inl ⟨rfl, rfl⟩) rfl ac_int nn nx (by omega) (by rw [l6]; omega) (by omega) (by omega) (?_)
  rw [l6]
  refine J_putR (pq := 87) dX0_init_84 rfl f_X0_43 (Or.inr ⟨rfl, _, rfl, rfl⟩) k7 rf_AI (?_)
  refine J_eq (h' := ch7 h q s id er) rfl rfl rfl ?_
  refine J_aload_n (pq := 88) dX0_init_87 rfl rfl (J_aload_n (pq := 89) dX0_init_88 rfl rfl (J_getI (pq := 92) dX0_init_89 rfl f_X0_22 jsI k7 (?_)))
  rw [z7]
  refine J_newa (q := 50) (n := 8 * s) (pq := 94) dX0_init_92 rfl (Or.inl ⟨rfl, rfl⟩) rfl ac_int nn nx (by omega) (by rw [l7]; omega) (by omega) (by omega) (?_)
  rw [l7]
  refine J_putR (pq := 97) dX0_init_94 rfl f_X0_46 (Or.inr ⟨rfl, _, rfl, rfl⟩) k8 rf_AI (?_)
  refine J_eq (h' := ch8 h q s id er) rfl rfl rfl ?_
  have a3 : (kd (ch8 h q s id er))[q + 3]? = some (50, 8 * s) := al_at (al_at (al_at (al_at (al_new (g := ch3 h q s id er) l3))))
  have a4 : (kd (ch8 h q s id er))[q + 4]? = some (50, 8 * s) := al_at (al_at (al_at (al_new (g := ch4 h q s id er) l4)))
  have a5 : (kd (ch8 h q s id er))[q + 5]? = some (50, 8 * s) := al_at (al_at (al_new (g := ch5 h q s id er) l5))
  have a7 : (kd (ch8 h q s id er))[q + 7]? = some (50, 8 * s) := al_new (g := ch7 h q s id er) l7
  have rr : ∀ (g : JH) (p : Nat × Nat) n k0 v k, (kd g).length = n → q < n → k ≠ k0 → gr (sr (al g p) q k0 v) q k = gr g q k := fun g p n k0 v k hn hqn hk => by
    rw [gr_sr, if_neg (fun z => hk z.2)]
    show (if q = (kd g).length then none else gr g q k) = _
    rw [if_neg (by omega)]
  have rs : ∀ (g : JH) k v, gr (sr g q k v) q k = v := fun g k v => by rw [gr_sr, if_pos ⟨rfl, rfl⟩]
  have r8 : gr (ch8 h q s id er) q 8 = some (q + 3) := (rr _ _ _ _ _ _ l7 (by omega) (by omega)).trans ((rr _ _ _ _ _ _ l6 (by omega) (by omega)).trans ((rr _ _ _ _ _ _ l5 (by omega) (by omega)).trans ((rr _ _ _ _ _ _ l4 (by omega) (by omega)).trans (rs _ _ _))))
  have r9 : gr (ch8 h q s id er) q 9 = some (q + 4) := (rr _ _ _ _ _ _ l7 (by omega) (by omega)).trans ((rr _ _ _ _ _ _ l6 (by omega) (by omega)).trans ((rr _ _ _ _ _ _ l5 (by omega) (by omega)).trans (rs _ _ _)))
  have r10 : gr (ch8 h q s id er) q 10 = some (q + 5) := (rr _ _ _ _ _ _ l7 (by omega) (by omega)).trans ((rr _ _ _ _ _ _ l6 (by omega) (by omega)).trans (rs _ _ _))
  have r12 : gr (ch8 h q s id er) q 12 = some (q + 7) := rs _ _ _
  refine J_aload_n (pq := 98) dX0_init_97 rfl rfl (J_getA (pq := 101) dX0_init_98 rfl f_X0_33 (by decide +kernel) k8 r8 (J_sipush (pq := 104) dX0_init_101 rfl c_sipush_255 (J_statF (pq := 107) dX0_init_104 rfl (j_fill (n := 8 * s) a3 (by omega)) rfl tg_J7_fill_53178 l_X0_49 st_J7_fill_53178 (Nat.le_of_ble_eq_true rfl) (Nat.zero_le _) (Nat.zero_le _) (Nat.le_of_ble_eq_true rfl) (J_aload_n (pq := 108) dX0_init_107 rfl rfl (J_getA (pq := 111) dX0_init_108 rfl f_X0_37 (by decide +kernel) k8 r9 (J_sipush (pq := 114) dX0_init_111 rfl c_sipush_255 (J_statF (pq := 117) dX0_init_114 rfl (j_fill (n := 8 * s) a4 (by omega)) rfl tg_J7_fill_53178 l_X0_49 st_J7_fill_53178 (Nat.le_of_ble_eq_true rfl) (Nat.zero_le _) (Nat.zero_le _) (Nat.le_of_ble_eq_true rfl) (J_aload_n (pq := 118) dX0_init_117 rfl rfl (J_getA (pq := 121) dX0_init_118 rfl f_X0_40 (by decide +kernel) k8 r10 (J_iconst (pq := 122) dX0_init_121 rfl c_iconst_3 (J_statF (pq := 125) dX0_init_122 rfl (j_fill (n := 8 * s) a5 (by omega)) rfl tg_J7_fill_53178 l_X0_49 st_J7_fill_53178 (Nat.le_of_ble_eq_true rfl) (Nat.zero_le _) (Nat.zero_le _) (Nat.le_of_ble_eq_true rfl) (J_aload_n (pq := 126) dX0_init_125 rfl rfl (J_getA (pq := 129) dX0_init_126 rfl f_X0_46 (by decide +kernel) k8 r12 (J_iconst (pq := 130) dX0_init_129 rfl c_iconst_m1 (J_statF (pq := 133) dX0_init_130 rfl (j_fill (n := 8 * s) a7 (by omega)) rfl tg_J7_fill_53178 l_X0_49 st_J7_fill_53178 (Nat.le_of_ble_eq_true rfl) (Nat.zero_le _) (Nat.zero_le _) (Nat.le_of_ble_eq_true rfl) (J_vret dX0_init_133 rfl ?_))))))))))))))))
  exact ⟨rfl, rfl⟩
/-- what a new chip holds -/
def ChN (h g : JH) (q s : Nat) (id er : Int32) : Prop := kd g = kd h ++ [(0, 17), (52, 8), (52, 28), (50, 8 * s), (50, 8 * s), (50, 8 * s), (50, 8 * s), (50, 8 * s)] ∧ CK g q s ∧ gi g q 1 = id ∧ gi g q 2 = er ∧ (∀ b, 3 ≤ b → gi g q b = 0) ∧ (∀ a, a < 8 * s → gi g (q + 3) a = 255 ∧ gi g (q + 4) a = 255 ∧ gi g (q + 5) a = 3 ∧ gi g (q + 6) a = 0 ∧ gi g (q + 7) a = -1) ∧ (∀ b, gi g (q + 1) b = 0 ∧ gi g (q + 2) b = 0) ∧ (∀ a b, a < q → gi g a b = gi h a b) ∧ (∀ a b, a < q → gr g a b = gr h a b) ∧ ∀ a b, a < q → gl g a b = gl h a b
theorem ch_N {id er : Int32} (hq : (kd h).length = q) (hs1 : 1 ≤ s) (hs2 : s ≤ 8) : ChN h (ch9 h q s id er) q s id er := by
  have l0 : (kd (ch0 h)).length = q + 1 := al_len hq
  have l1 : (kd (ch1 h q)).length = q + 2 := al_len l0
  have l2 : (kd (ch2 h q)).length = q + 3 := al_len l1
  have l3 : (kd (ch3 h q s id er)).length = q + 3 := l2
  have l4 : (kd (ch4 h q s id er)).length = q + 4 := al_len l3
  have l5 : (kd (ch5 h q s id er)).length = q + 5 := al_len l4
  have l6 : (kd (ch6 h q s id er)).length = q + 6 := al_len l5
  have l7 : (kd (ch7 h q s id er)).length = q + 7 := al_len l6
  have hkd : kd (ch9 h q s id er) = kd h ++ [(0, 17), (52, 8), (52, 28), (50, 8 * s), (50, 8 * s), (50, 8 * s), (50, 8 * s), (50, 8 * s)] := by
    show (((((((kd h ++ [(0, 17)]) ++ [(52, 8)]) ++ [(52, 28)]) ++ [(50, 8 * s)]) ++ [(50, 8 * s)]) ++ [(50, 8 * s)]) ++ [(50, 8 * s)]) ++ [(50, 8 * s)] = _
    simp
  have gA : ∀ (g : JH) (p : Nat × Nat) a b, gi (al g p) a b = if a = (kd g).length then 0 else gi g a b := fun _ _ _ _ => rfl
  have rA : ∀ (g : JH) (p : Nat × Nat) a b, gr (al g p) a b = if a = (kd g).length then none else gr g a b := fun _ _ _ _ => rfl
  have e8 : ∀ a b, gi (ch8 h q s id er) a b = if q + 3 ≤ a ∧ a ≤ q + 7 then 0 else gi (ch3 h q s id er) a b := fun a b => by
    show gi (al (ch7 h q s id er) (50, 8 * s)) a b = _
    rw [gA, l7]
    by_cases h7 : a = q + 7
    · rw [if_pos h7, if_pos (by omega)]
    rw [if_neg h7]
    show gi (al (ch6 h q s id er) (50, 8 * s)) a b = _
    rw [gA, l6]
    by_cases h7 : a = q + 6
    · rw [if_pos h7, if_pos (by omega)]
    rw [if_neg h7]
    show gi (al (ch5 h q s id er) (50, 8 * s)) a b = _
    rw [gA, l5]
    by_cases h7 : a = q + 5
    · rw [if_pos h7, if_pos (by omega)]
    rw [if_neg h7]
    show gi (al (ch4 h q s id er) (50, 8 * s)) a b = _
    rw [gA, l4]
    by_cases h7 : a = q + 4
    · rw [if_pos h7, if_pos (by omega)]
    rw [if_neg h7]
    show gi (al (ch3 h q s id er) (50, 8 * s)) a b = _
    rw [gA, l3]
    by_cases h7 : a = q + 3
    · rw [if_pos h7, if_pos (by omega)]
    rw [if_neg h7, if_neg (by omega)]
  have e2 : ∀ a b, gi (ch2 h q) a b = if q ≤ a ∧ a ≤ q + 2 then 0 else gi h a b := fun a b => by
    show gi (al (ch1 h q) (52, 28)) a b = _
    rw [gA, l1]
    by_cases h7 : a = q + 2
    · rw [if_pos h7, if_pos (by omega)]
    rw [if_neg h7]
    show gi (al (ch0 h) (52, 8)) a b = _
    rw [gA, l0]
    by_cases h7 : a = q + 1
    · rw [if_pos h7, if_pos (by omega)]
    rw [if_neg h7]
    show gi (al h (0, 17)) a b = _
    rw [gA, hq]
    by_cases h7 : a = q
    · rw [if_pos h7, if_pos (by omega)]
    rw [if_neg h7, if_neg (by omega)]
  have e3 : ∀ a b, gi (ch3 h q s id er) a b = if a = q ∧ b = 2 then er else if a = q ∧ b = 1 then id else if a = q ∧ b = 0 then nI (8 * s) else gi (ch2 h q) a b := fun a b => by
    unfold ch3; rw [gi_si, gi_si, gi_si]
  have e9 : ∀ a b, gi (ch9 h q s id er) a b = if a = q + 7 ∧ b < 8 * s then -1 else if a = q + 5 ∧ b < 8 * s then 3 else if a = q + 4 ∧ b < 8 * s then 255 else if a = q + 3 ∧ b < 8 * s then 255 else gi (ch8 h q s id er) a b := fun a b => by
    unfold ch9; rw [gi_fillN, gi_fillN, gi_fillN, gi_fillN]
  have eq : ∀ a b, a ≤ q + 2 → gi (ch9 h q s id er) a b = gi (ch3 h q s id er) a b := fun a b ha => by
    rw [e9, if_neg (by omega), if_neg (by omega), if_neg (by omega), if_neg (by omega), e8, if_neg (by omega)]
  have rg : ∀ a b, a ≤ q + 2 → gr (ch9 h q s id er) a b = if a = q ∧ b = 12 then some (q + 7) else if a = q ∧ b = 11 then some (q + 6) else if a = q ∧ b = 10 then some (q + 5) else if a = q ∧ b = 9 then some (q + 4) else if a = q ∧ b = 8 then some (q + 3) else gr (ch2 h q) a b := fun a b ha => by
    show gr (ch8 h q s id er) a b = _
    unfold ch8; rw [gr_sr, rA, l7, if_neg (show ¬ a = q + 7 by omega)]
    unfold ch7; rw [gr_sr, rA, l6, if_neg (show ¬ a = q + 6 by omega)]
    unfold ch6; rw [gr_sr, rA, l5, if_neg (show ¬ a = q + 5 by omega)]
    unfold ch5; rw [gr_sr, rA, l4, if_neg (show ¬ a = q + 4 by omega)]
    unfold ch4; rw [gr_sr, rA, l3, if_neg (show ¬ a = q + 3 by omega)]
    rfl
  have r2 : ∀ a b, a ≤ q → gr (ch2 h q) a b = if a = q ∧ b = 14 then some (q + 2) else if a = q ∧ b = 13 then some (q + 1) else if a = q then none else gr h a b := fun a b ha => by
    unfold ch2; rw [gr_sr, rA, l1, if_neg (show ¬ a = q + 2 by omega)]
    unfold ch1; rw [gr_sr, rA, l0, if_neg (show ¬ a = q + 1 by omega)]
    unfold ch0; rw [rA, hq]
  have kk : ∀ j p, ([(0, 17), (52, 8), (52, 28), (50, 8 * s), (50, 8 * s), (50, 8 * s), (50, 8 * s), (50, 8 * s)] : List (Nat × Nat))[j]? = some p → (kd (ch9 h q s id er))[q + j]? = some p := fun j p hp => by
    rw [hkd, List.getElem?_append_right (by omega), hq, Nat.add_sub_cancel_left]; exact hp
  refine ⟨hkd, ⟨⟨kk 0 _ rfl, kk 1 _ rfl, kk 2 _ rfl, kk 3 _ rfl, kk 4 _ rfl, kk 5 _ rfl, kk 6 _ rfl, kk 7 _ rfl⟩, ⟨?_, ?_, ?_, ?_, ?_, ?_, ?_⟩, ?_, hs1, hs2⟩, ?_, ?_, fun b hb => ?_, fun a ha => ⟨?_, ?_, ?_, ?_, ?_⟩, fun b => ⟨?_, ?_⟩, fun a b ha => ?_, fun a b ha => ?_, fun a b ha => ?_⟩
  · rw [rg _ _ (by omega)]; simp
  · rw [rg _ _ (by omega)]; simp
  · rw [rg _ _ (by omega)]; simp
  · rw [rg _ _ (by omega)]; simp
  · rw [rg _ _ (by omega)]; simp
  · rw [rg _ _ (by omega)]; simp [r2]
  · rw [rg _ _ (by omega)]; simp [r2]
  · rw [eq _ _ (by omega), e3]; simp
  · rw [eq _ _ (by omega), e3]; simp
  · rw [eq _ _ (by omega), e3]; simp
  · rw [eq _ _ (by omega), e3, if_neg (by omega), if_neg (by omega), if_neg (by omega), e2, if_pos (by omega)]
  · rw [e9, if_neg (by omega), if_neg (by omega), if_neg (by omega), if_pos ⟨rfl, ha⟩]
  · rw [e9, if_neg (by omega), if_neg (by omega), if_pos ⟨rfl, ha⟩]
  · rw [e9, if_neg (by omega), if_pos ⟨rfl, ha⟩]
  · rw [e9, if_neg (by omega), if_neg (by omega), if_neg (by omega), if_neg (by omega), e8, if_pos (by omega)]
  · rw [e9, if_pos ⟨rfl, ha⟩]
  · rw [eq _ _ (by omega), e3, if_neg (by omega), if_neg (by omega), if_neg (by omega), e2, if_pos (by omega)]
  · rw [eq _ _ (by omega), e3, if_neg (by omega), if_neg (by omega), if_neg (by omega), e2, if_pos (by omega)]
  · rw [eq _ _ (by omega), e3, if_neg (by omega), if_neg (by omega), if_neg (by omega), e2, if_neg (by omega)]
  · rw [rg _ _ (by omega), if_neg (by omega), if_neg (by omega), if_neg (by omega), if_neg (by omega), if_neg (by omega), r2 _ _ (by omega), if_neg (by omega), if_neg (by omega), if_neg (by omega)]
  · have lA : ∀ (g : JH) (p : Nat × Nat), (kd g).length = q ∨ q ≤ (kd g).length → gl (al g p) a b = gl g a b := fun g p hg => by
      show (if a = (kd g).length then 0 else gl g a b) = _
      rw [if_neg (by omega)]
    show gl (al (ch7 h q s id er) (50, 8 * s)) a b = _
    rw [lA _ _ (by omega)]
    show gl (al (ch6 h q s id er) (50, 8 * s)) a b = _
    rw [lA _ _ (by omega)]
    show gl (al (ch5 h q s id er) (50, 8 * s)) a b = _
    rw [lA _ _ (by omega)]
    show gl (al (ch4 h q s id er) (50, 8 * s)) a b = _
    rw [lA _ _ (by omega)]
    show gl (al (ch3 h q s id er) (50, 8 * s)) a b = _
    rw [lA _ _ (by omega)]
    show gl (al (ch1 h q) (52, 28)) a b = _
    rw [lA _ _ (by omega)]
    show gl (al (ch0 h) (52, 8)) a b = _
    rw [lA _ _ (by omega)]
    show gl (al h (0, 17)) a b = _
    rw [lA _ _ (by omega)]
end D6
