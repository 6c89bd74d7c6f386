-- the reference's reading of a recipe: the stack of what is open
def cap (v : Nat) : Nat := min 1000001 v
theorem cap_lt (v : Nat) : cap v ≤ 1000001 := Nat.min_le_left _ _
theorem cap_add (a b : Nat) : min 1000001 (cap a + b) = cap (a + b) := by unfold cap; omega
theorem cap_add2 (a b : Nat) : min 1000001 (cap a + cap b) = cap (a + b) := by unfold cap; omega
theorem cap_mul {a m : Nat} (hm : 1 ≤ m) : (if 1000000 < cap a * m then 1000001 else cap a * m) = cap (m * a) := by
  unfold cap
  rw [Nat.mul_comm m a]
  by_cases ha : a ≤ 1000001
  · rw [Nat.min_eq_right ha]
    split <;> omega
  · rw [Nat.min_eq_left (by omega)]
    have h1 : 1000001 * 1 ≤ 1000001 * m := Nat.mul_le_mul_left _ hm
    have h2 : 1000001 * 1 ≤ a * m := Nat.mul_le_mul (by omega) hm
    rw [if_pos (by omega)]
    omega
theorem cap_max (a b : Nat) : (if cap b < cap a then cap a else cap b) = cap (max b a) := by unfold cap; split <;> omega
/-- what the reference's rows say while a recipe is being read: frames, the tree so far, orders written -/
def MZ (G : Nat → Nat → Int32) : List Fr → Cond → Nat → Prop
  | [], cur, o => PG cur ∧ MS G 400 cur 0 o
  | (acc, part, num, a) :: fs, cur, o => ∃ k s, MZ G fs acc k ∧ PG cur ∧ MS G 400 cur s o ∧ G 70 fs.length = nI (cap (pP acc)) ∧ G 71 fs.length = nI (cap (pW acc)) ∧
      ((part = 0 ∧ G 63 (400 + k) = nI 3 ∧ G 64 (400 + k) = nI num ∧ s = k + 1 ∧ G 68 fs.length = nI k ∧ G 69 fs.length = nI 0 ∧ 1 ≤ num ∧ num ≤ 50)
      ∨ (part = 1 ∧ G 63 (400 + k) = nI 5 ∧ s = k + 1 ∧ G 68 fs.length = nI k ∧ G 69 fs.length = nI 1)
      ∨ (part = 2 ∧ G 63 (400 + k) = nI 5 ∧ ∃ g, PG a ∧ MS G 400 a (k + 1) g ∧ G 63 (400 + g) = nI 6 ∧ G 65 (400 + k) = nI (g + 1) ∧ s = g + 1 ∧ G 68 fs.length = nI g ∧ G 69 fs.length = nI 2 ∧ G 72 fs.length = nI (cap (pP a)) ∧ G 73 fs.length = nI (cap (pW a))))
theorem MZ_le {G : Nat → Nat → Int32} : ∀ (fs : List Fr) {cur : Cond} {o : Nat}, MZ G fs cur o → PG cur ∧ psz cur ≤ o
  | [], cur, o, h => ⟨h.1, by have := (MS_le cur h.1 _ _ h.2).1; omega⟩
  | (acc, part, num, a) :: fs, cur, o, h => by
    obtain ⟨k, s, h1, h2, h3, -⟩ := h
    exact ⟨h2, by have := (MS_le cur h2 _ _ h3).1; omega⟩
theorem MZ_congr {G G' : Nat → Nat → Int32} : ∀ (fs : List Fr) {cur : Cond} {o : Nat}, (∀ k, k < o → G' 63 (400 + k) = G 63 (400 + k) ∧ G' 64 (400 + k) = G 64 (400 + k) ∧ G' 65 (400 + k) = G 65 (400 + k)) → (∀ u, u < fs.length → ∀ q, 68 ≤ q → q ≤ 73 → G' q u = G q u) → MZ G fs cur o → MZ G' fs cur o
  | [], cur, o, h1, _, h => ⟨h.1, MS_congr cur h.1 _ _ (fun k _ b => h1 k b) h.2⟩
  | (acc, part, num, a) :: fs, cur, o, h1, h2, h => by
    obtain ⟨k, s, z1, z2, z3, z4, z5, z6⟩ := h
    have hso := (MS_le cur z2 _ _ z3).1
    have e := h2 fs.length (by simp)
    have hks : k + 1 ≤ s := by
      rcases z6 with ⟨-, -, -, q, -⟩ | ⟨-, -, q, -⟩ | ⟨-, -, g, q1, q2, -, -, q, -⟩
      · omega
      · omega
      · have := (MS_le a q1 _ _ q2).1; omega
    have hk := h1 k (by omega)
    refine ⟨k, s, MZ_congr fs (fun j hj => h1 j (by omega)) (fun u hu => h2 u (by simp; omega)) z1, z2, MS_congr cur z2 _ _ (fun j _ b => h1 j b) z3, (e 70 (by omega) (by omega)).trans z4, (e 71 (by omega) (by omega)).trans z5, ?_⟩
    rcases z6 with ⟨q1, q2, q3, q4, q5, q6, q7⟩ | ⟨q1, q2, q3, q4, q5⟩ | ⟨q1, q2, g, q3, q4, q5, q6, q7, q8, q9, q10, q11⟩
    · exact Or.inl ⟨q1, hk.1.trans q2, hk.2.1.trans q3, q4, (e 68 (by omega) (by omega)).trans q5, (e 69 (by omega) (by omega)).trans q6, q7⟩
    · exact Or.inr (Or.inl ⟨q1, hk.1.trans q2, q3, (e 68 (by omega) (by omega)).trans q4, (e 69 (by omega) (by omega)).trans q5⟩)
    · have := (MS_le a q3 _ _ q4).1
      have hg := h1 g (by omega)
      exact Or.inr (Or.inr ⟨q1, hk.1.trans q2, g, q3, MS_congr a q3 _ _ (fun j _ b => h1 j (by omega)) q4, hg.1.trans q5, hk.2.2.trans q6, q7, (e 68 (by omega) (by omega)).trans q8, (e 69 (by omega) (by omega)).trans q9, (e 72 (by omega) (by omega)).trans q10, (e 73 (by omega) (by omega)).trans q11⟩)
/-- a plain step is added -/
theorem MZ_leaf {G G' : Nat → Nat → Int32} {fs : List Fr} {cur : Cond} {o kk m : Nat} (h : MZ G fs cur o) (h1 : ∀ k, k < o → G' 63 (400 + k) = G 63 (400 + k) ∧ G' 64 (400 + k) = G 64 (400 + k) ∧ G' 65 (400 + k) = G 65 (400 + k)) (h2 : ∀ u, u < fs.length → ∀ q, 68 ≤ q → q ≤ 73 → G' q u = G q u) (h3 : G' 63 (400 + o) = nI kk) (h4 : G' 64 (400 + o) = nI m) : MZ G' fs (papp cur (pL kk m pN)) (o + 1) := by
  have hz := MZ_congr fs h1 h2 h
  have hl : MS G' 400 (pL kk m pN) o (o + 1) := ⟨h3, h4, rfl⟩
  match fs, hz with
  | [], hz => exact ⟨papp_PG (d := pL kk m pN) trivial cur hz.1, MS_app cur hz.1 _ _ _ hz.2 hl⟩
  | (acc, part, num, a) :: fs, hz =>
    obtain ⟨k, s, z1, z2, z3, z4⟩ := hz
    exact ⟨k, s, z1, papp_PG (d := pL kk m pN) trivial cur z2, MS_app cur z2 _ _ _ z3 hl, z4⟩
/-- a tree is put behind what the frame below holds -/
theorem MZ_put {G : Nat → Nat → Int32} {fs : List Fr} {acc d : Cond} {k o : Nat} (hz : MZ G fs acc k) (hd : PG d) (hl : MS G 400 d k o) : MZ G fs (papp acc d) o := by
  match fs, hz with
  | [], hz => exact ⟨papp_PG hd acc hz.1, MS_app acc hz.1 _ _ _ hz.2 hl⟩
  | (acc', part, num, a) :: fs, hz =>
    obtain ⟨k', s, z1, z2, z3, z4⟩ := hz
    exact ⟨k', s, z1, papp_PG hd acc z2, MS_app acc z2 _ _ _ z3 hl, z4⟩
section P2
variable {x : JX} {h : JH}
/-- an order is written -/
def mOrd (h : JH) (o : Nat) (w n p : Int32) : JH := si (si (si (si h 63 (400 + o) w) 64 (400 + o) n) 65 (400 + o) p) 38 50 (nI (o + 1))
theorem j_X9_order {o : Nat} {w n p : Int32} (hK : Kin h) (hR : MR h) (ho : gi h 38 50 = nI o) (ho2 : o < 100) : JF x yX9_order cX9_order 5 (some .int) 0 0 0 [.ref 38, .int w, .int n, .int p] h (some (.int (nI o))) (mOrd h o w n p) := by
  refine JM_of [some (.ref 38), some (.int w), some (.int n), some (.int p), none] (by decide) (Nat.le_of_ble_eq_true rfl) rfl ?_
  have e1 : (400 : Int32) + gi h 38 50 = nI (400 + o) := by rw [ho, show (400 : Int32) = nI 400 from rfl, nI_add]
  have hb : vp_in ((400 : Int32) + gi h 38 50) 500 := vinN e1 (by omega) (by omega)
  have hx : ix ((400 : Int32) + gi h 38 50) = 400 + o := by rw [e1, ixn (by omega)]
  refine J_sipush (pq := 3) dX9_order_0 rfl c_sipush_400 (J_aload_n (pq := 4) dX9_order_3 rfl rfl (J_getI (pq := 7) dX9_order_4 rfl f_X9_253 jsI (hK.at rfl) (J_iadd (pq := 8) dX9_order_7 rfl (J_istore (pq := 10) dX9_order_8 rfl (Nat.le_of_ble_eq_true rfl) (Nat.le_of_ble_eq_true rfl) rfl (J_aload_n (pq := 11) dX9_order_10 rfl rfl (J_getA (pq := 14) dX9_order_11 rfl f_X9_91 (by decide +kernel) (hK.at rfl) (hR _ _ rfl) (J_iload (pq := 16) dX9_order_14 rfl rfl (J_iload_n (pq := 17) dX9_order_16 rfl rfl (J_iast (pq := 18) dX9_order_17 rfl (hK.at rfl) (by assumption) (J_aload_n (pq := 19) dX9_order_18 rfl rfl (J_getA (pq := 22) dX9_order_19 rfl f_X9_94 (by decide +kernel) (hK.at rfl) (hR _ _ rfl) (J_iload (pq := 24) dX9_order_22 rfl rfl (J_iload_n (pq := 25) dX9_order_24 rfl rfl (J_iast (pq := 26) dX9_order_25 rfl (hK.at rfl) (by assumption) (J_aload_n (pq := 27) dX9_order_26 rfl rfl (J_getA (pq := 30) dX9_order_27 rfl f_X9_97 (by decide +kernel) (hK.at rfl) (hR _ _ rfl) (J_iload (pq := 32) dX9_order_30 rfl rfl (J_iload_n (pq := 33) dX9_order_32 rfl rfl (J_iast (pq := 34) dX9_order_33 rfl (hK.at rfl) (by assumption) (J_aload_n (pq := 35) dX9_order_34 rfl rfl (J_dup (pq := 36) dX9_order_35 rfl rfl (J_getI (pq := 39) dX9_order_36 rfl f_X9_253 jsI (hK.at rfl) (J_iconst (pq := 40) dX9_order_39 rfl c_iconst_1 (J_iadd (pq := 41) dX9_order_40 rfl (J_putI (pq := 44) dX9_order_41 rfl f_X9_253 (Or.inl rfl) (hK.at rfl) (J_aload_n (pq := 45) dX9_order_44 rfl rfl (J_getI (pq := 48) dX9_order_45 rfl f_X9_253 jsI (hK.at rfl) (J_iconst (pq := 49) dX9_order_48 rfl c_iconst_1 (J_isub (pq := 50) dX9_order_49 rfl (J_iret dX9_order_50 rfl rfl ?_))))))))))))))))))))))))))))))
  have e50 : ∀ (v1 v2 v3 : Int32), gi (si (si (si h 63 (400 + o) v1) 64 (400 + o) v2) 65 (400 + o) v3) 38 50 = nI o := fun v1 v2 v3 => by
    rw [gi_si, if_neg (by simp), gi_si, if_neg (by simp), gi_si, if_neg (by simp)]; exact ho
  rw [hx, e50, nI_1]
  refine ⟨?_, rfl⟩
  rw [gi_si, if_pos ⟨rfl, rfl⟩, nI_pred]
theorem j_X9_lesser {a b : Nat} (ha : a < 2147483648) (hb : b < 2147483648) : JF x yX9_lesser cX9_lesser 2 (some .int) 0 0 0 [.int (nI a), .int (nI b)] h (some (.int (nI (min a b)))) h := by
  refine JM_of [some (.int (nI a)), some (.int (nI b))] (by decide) (Nat.le_of_ble_eq_true rfl) rfl ?_
  refine J_iload_n (pq := 1) dX9_lesser_0 rfl rfl (J_iload_n (pq := 2) dX9_lesser_1 rfl rfl (J_icmp_ge (pq := 5) (tgt := 9) dX9_lesser_2 rfl rfl (fun c => ?_) (fun c => ?_)))
  · rw [nI_leI (by omega) (by omega)] at c
    refine J_iload_n (pq := 10) dX9_lesser_9 rfl rfl (J_iret dX9_lesser_10 rfl rfl ?_)
    exact ⟨by rw [Nat.min_eq_right c], rfl⟩
  · rw [nI_leI (by omega) (by omega)] at c
    refine J_iload_n (pq := 6) dX9_lesser_5 rfl rfl (J_goto (tgt := 10) dX9_lesser_6 rfl (J_iret dX9_lesser_10 rfl rfl ?_))
    exact ⟨by rw [Nat.min_eq_left (by omega)], rfl⟩
def mBeg (h : JH) (L o : Nat) (pt sp sw : Int32) : JH := si (si (si (si (si (si (si h 68 L (nI o)) 69 L pt) 70 L sp) 71 L sw) 38 48 0) 38 49 0) 38 47 (nI (L + 1))
theorem j_X9_begin {o L : Nat} {pt : Int32} (hK : Kin h) (hR : MR h) (ho : o < 100) (hL : gi h 38 47 = nI L) (hL2 : L < 6) (hpt : pt = if gi h 63 (400 + o) = 3 then 0 else 1) : JF x yX9_begin cX9_begin 2 none 0 0 0 [.ref 38, .int (nI o)] h none (mBeg h L o pt (gi h 38 48) (gi h 38 49)) := by
  refine JM_of [some (.ref 38), some (.int (nI o))] (by decide) (Nat.le_of_ble_eq_true rfl) rfl ?_
  have e1 : (400 : Int32) + nI o = nI (400 + o) := by rw [show (400 : Int32) = nI 400 from rfl, nI_add]
  have hb : vp_in ((400 : Int32) + nI o) 500 := vinN e1 (by omega) (by omega)
  have hx : ix ((400 : Int32) + nI o) = 400 + o := by rw [e1, ixn (by omega)]
  have hb2 : vp_in (gi h 38 47) 6 := vinN hL hL2 (by omega)
  have hx2 : ix (gi h 38 47) = L := by rw [hL, ixn (by omega)]
  have hxL : ix (nI L) = L := ixn (by omega)
  refine J_aload_n (pq := 1) dX9_begin_0 rfl rfl (J_getA (pq := 4) dX9_begin_1 rfl f_X9_106 (by decide +kernel) (hK.at rfl) (hR _ _ rfl) (J_aload_n (pq := 5) dX9_begin_4 rfl rfl (J_getI (pq := 8) dX9_begin_5 rfl f_X9_256 jsI (hK.at rfl) (J_iload_n (pq := 9) dX9_begin_8 rfl rfl (J_iast (pq := 10) dX9_begin_9 rfl (hK.at rfl) (by assumption) (J_aload_n (pq := 11) dX9_begin_10 rfl rfl (J_getA (pq := 14) dX9_begin_11 rfl f_X9_109 (by decide +kernel) (hK.at rfl) (hR _ _ rfl) (J_aload_n (pq := 15) dX9_begin_14 rfl rfl (J_getI (pq := 18) dX9_begin_15 rfl f_X9_256 jsI (hK.at rfl) (J_aload_n (pq := 19) dX9_begin_18 rfl rfl (J_getA (pq := 22) dX9_begin_19 rfl f_X9_91 (by decide +kernel) (hK.at rfl) (hR _ _ rfl) (J_sipush (pq := 25) dX9_begin_22 rfl c_sipush_400 (J_iload_n (pq := 26) dX9_begin_25 rfl rfl (J_iadd (pq := 27) dX9_begin_26 rfl (J_iald (pq := 28) dX9_begin_27 rfl (hK.at rfl) (by assumption) (J_iconst (pq := 29) dX9_begin_28 rfl c_iconst_3 (J_icmp_ne (pq := 32) (tgt := 36) dX9_begin_29 rfl rfl (fun c => ?_) (fun c => ?_))))))))))))))))))
  · rw [hx, gi_si, if_neg (by simp)] at c
    refine J_iconst (pq := 37) dX9_begin_36 rfl c_iconst_1 (J_iast (pq := 38) dX9_begin_37 rfl (hK.at rfl) (by assumption) (J_aload_n (pq := 39) dX9_begin_38 rfl rfl (J_getA (pq := 42) dX9_begin_39 rfl f_X9_112 (by decide +kernel) (hK.at rfl) (hR _ _ rfl) (J_aload_n (pq := 43) dX9_begin_42 rfl rfl (J_getI (pq := 46) dX9_begin_43 rfl f_X9_256 jsI (hK.at rfl) (J_aload_n (pq := 47) dX9_begin_46 rfl rfl (J_getI (pq := 50) dX9_begin_47 rfl f_X9_259 jsI (hK.at rfl) (J_iast (pq := 51) dX9_begin_50 rfl (hK.at rfl) (by assumption) (J_aload_n (pq := 52) dX9_begin_51 rfl rfl (J_getA (pq := 55) dX9_begin_52 rfl f_X9_115 (by decide +kernel) (hK.at rfl) (hR _ _ rfl) (J_aload_n (pq := 56) dX9_begin_55 rfl rfl (J_getI (pq := 59) dX9_begin_56 rfl f_X9_256 jsI (hK.at rfl) (J_aload_n (pq := 60) dX9_begin_59 rfl rfl (J_getI (pq := 63) dX9_begin_60 rfl f_X9_262 jsI (hK.at rfl) (J_iast (pq := 64) dX9_begin_63 rfl (hK.at rfl) (by assumption) (J_aload_n (pq := 65) dX9_begin_64 rfl rfl (J_iconst (pq := 66) dX9_begin_65 rfl c_iconst_0 (J_putI (pq := 69) dX9_begin_66 rfl f_X9_259 (Or.inl rfl) (hK.at rfl) (J_aload_n (pq := 70) dX9_begin_69 rfl rfl (J_iconst (pq := 71) dX9_begin_70 rfl c_iconst_0 (J_putI (pq := 74) dX9_begin_71 rfl f_X9_262 (Or.inl rfl) (hK.at rfl) (J_aload_n (pq := 75) dX9_begin_74 rfl rfl (J_dup (pq := 76) dX9_begin_75 rfl rfl (J_getI (pq := 79) dX9_begin_76 rfl f_X9_256 jsI (hK.at rfl) (J_iconst (pq := 80) dX9_begin_79 rfl c_iconst_1 (J_iadd (pq := 81) dX9_begin_80 rfl (J_putI (pq := 84) dX9_begin_81 rfl f_X9_256 (Or.inl rfl) (hK.at rfl) (J_vret dX9_begin_84 rfl ?_))))))))))))))))))))))))))))
    refine ⟨rfl, ?_⟩
    rw [hpt, if_neg c]
    simp [mBeg, gi_si, hL, hxL, nI_1]
  · rw [hx, gi_si, if_neg (by simp)] at c
    refine J_iconst (pq := 33) dX9_begin_32 rfl c_iconst_0 (J_goto (tgt := 37) dX9_begin_33 rfl (J_iast (pq := 38) dX9_begin_37 rfl (hK.at rfl) (by assumption) (J_aload_n (pq := 39) dX9_begin_38 rfl rfl (J_getA (pq := 42) dX9_begin_39 rfl f_X9_112 (by decide +kernel) (hK.at rfl) (hR _ _ rfl) (J_aload_n (pq := 43) dX9_begin_42 rfl rfl (J_getI (pq := 46) dX9_begin_43 rfl f_X9_256 jsI (hK.at rfl) (J_aload_n (pq := 47) dX9_begin_46 rfl rfl (J_getI (pq := 50) dX9_begin_47 rfl f_X9_259 jsI (hK.at rfl) (J_iast (pq := 51) dX9_begin_50 rfl (hK.at rfl) (by assumption) (J_aload_n (pq := 52) dX9_begin_51 rfl rfl (J_getA (pq := 55) dX9_begin_52 rfl f_X9_115 (by decide +kernel) (hK.at rfl) (hR _ _ rfl) (J_aload_n (pq := 56) dX9_begin_55 rfl rfl (J_getI (pq := 59) dX9_begin_56 rfl f_X9_256 jsI (hK.at rfl) (J_aload_n (pq := 60) dX9_begin_59 rfl rfl (J_getI (pq := 63) dX9_begin_60 rfl f_X9_262 jsI (hK.at rfl) (J_iast (pq := 64) dX9_begin_63 rfl (hK.at rfl) (by assumption) (J_aload_n (pq := 65) dX9_begin_64 rfl rfl (J_iconst (pq := 66) dX9_begin_65 rfl c_iconst_0 (J_putI (pq := 69) dX9_begin_66 rfl f_X9_259 (Or.inl rfl) (hK.at rfl) (J_aload_n (pq := 70) dX9_begin_69 rfl rfl (J_iconst (pq := 71) dX9_begin_70 rfl c_iconst_0 (J_putI (pq := 74) dX9_begin_71 rfl f_X9_262 (Or.inl rfl) (hK.at rfl) (J_aload_n (pq := 75) dX9_begin_74 rfl rfl (J_dup (pq := 76) dX9_begin_75 rfl rfl (J_getI (pq := 79) dX9_begin_76 rfl f_X9_256 jsI (hK.at rfl) (J_iconst (pq := 80) dX9_begin_79 rfl c_iconst_1 (J_iadd (pq := 81) dX9_begin_80 rfl (J_putI (pq := 84) dX9_begin_81 rfl f_X9_256 (Or.inl rfl) (hK.at rfl) (J_vret dX9_begin_84 rfl ?_)))))))))))))))))))))))))))))
    refine ⟨rfl, ?_⟩
    rw [hpt, if_pos c]
    simp [mBeg, gi_si, hL, hxL, nI_1]
def mClo (h : JH) (L a b : Nat) : JH := si (si (si h 38 47 (nI L)) 38 48 (nI a)) 38 49 (nI b)
theorem j_X9_close {L u v a b : Nat} (hK : Kin h) (hR : MR h) (hL : gi h 38 47 = nI (L + 1)) (hL2 : L < 6) (hu : gi h 70 L = nI u) (hv : gi h 71 L = nI v) (hu2 : u ≤ 1000001) (hv2 : v ≤ 1000001) (ha : a ≤ 1000001) (hb0 : b ≤ 1000001) : JF x yX9_close cX9_close 3 none 1 0 0 [.ref 38, .int (nI a), .int (nI b)] h none (mClo h L (min 1000001 (u + a)) (min 1000001 (v + 1 + b))) := by
  refine JM_of [some (.ref 38), some (.int (nI a)), some (.int (nI b))] (by decide) (Nat.le_of_ble_eq_true rfl) rfl ?_
  have hs : gi h 38 47 - 1 = nI L := by rw [hL, nI_pred]
  have hb1 : vp_in (nI L) 6 := vp_in_nI hL2 (by omega)
  have hx1 : ix (nI L) = L := ixn (by omega)
  refine J_aload_n (pq := 1) dX9_close_0 rfl rfl (J_dup (pq := 2) dX9_close_1 rfl rfl (J_getI (pq := 5) dX9_close_2 rfl f_X9_256 jsI (hK.at rfl) (J_iconst (pq := 6) dX9_close_5 rfl c_iconst_1 (J_isub (pq := 7) dX9_close_6 rfl (J_putI (pq := 10) dX9_close_7 rfl f_X9_256 (Or.inl rfl) (hK.at rfl) (?_))))))
  rw [hs]
  have e47 : gi (si h 38 47 (nI L)) 38 47 = nI L := by rw [gi_si, if_pos ⟨rfl, rfl⟩]
  have hb2 : vp_in (gi (si h 38 47 (nI L)) 38 47) 6 := by rw [e47]; exact hb1
  refine J_aload_n (pq := 11) dX9_close_10 rfl rfl (J_ldcw (pq := 14) dX9_close_11 rfl k_X9_265 (J_aload_n (pq := 15) dX9_close_14 rfl rfl (J_getA (pq := 18) dX9_close_15 rfl f_X9_112 (by decide +kernel) (hK.at rfl) (hR _ _ rfl) (J_aload_n (pq := 19) dX9_close_18 rfl rfl (J_getI (pq := 22) dX9_close_19 rfl f_X9_256 jsI (hK.at rfl) (J_iald (pq := 23) dX9_close_22 rfl (hK.at rfl) (by assumption) (J_iload_n (pq := 24) dX9_close_23 rfl rfl (J_iadd (pq := 25) dX9_close_24 rfl (?_)))))))))
  have s1 : gi (si h 38 47 (nI L)) 70 (ix (gi (si h 38 47 (nI L)) 38 47)) + nI a = nI (u + a) := by rw [e47, hx1, gi_si, if_neg (by simp), hu, nI_add]
  rw [s1]
  refine J_statF (pq := 28) dX9_close_25 rfl (j_X9_lesser (a := 1000001) (by omega) (by omega)) rfl tg_X9_lesser l_X9_266 st_X9_lesser (Nat.le_of_ble_eq_true rfl) (Nat.zero_le _) (Nat.zero_le _) (Nat.le_of_ble_eq_true rfl) (J_putI (pq := 31) dX9_close_28 rfl f_X9_259 (Or.inl rfl) (hK.at rfl) (?_))
  generalize hg : si (si h 38 47 (nI L)) 38 48 (nI (min 1000001 (u + a))) = g
  have hKg : Kin g := by rw [← hg]; exact hK
  have hRg : MR g := by rw [← hg]; exact hR
  have f47 : gi g 38 47 = nI L := by rw [← hg, gi_si, if_neg (by decide)]; exact e47
  have hb3 : vp_in (gi g 38 47) 6 := by rw [f47]; exact hb1
  have s2 : gi g 71 (ix (gi g 38 47)) + 1 + nI b = nI (v + 1 + b) := by rw [f47, hx1, ← hg, gi_si, if_neg (by simp), gi_si, if_neg (by simp), hv, nI_1, nI_add]
  refine J_aload_n (pq := 32) dX9_close_31 rfl rfl (J_ldcw (pq := 35) dX9_close_32 rfl k_X9_265 (J_aload_n (pq := 36) dX9_close_35 rfl rfl (J_getA (pq := 39) dX9_close_36 rfl f_X9_115 (by decide +kernel) (hKg.at rfl) (hRg _ _ rfl) (J_aload_n (pq := 40) dX9_close_39 rfl rfl (J_getI (pq := 43) dX9_close_40 rfl f_X9_256 jsI (hKg.at rfl) (J_iald (pq := 44) dX9_close_43 rfl (hKg.at rfl) (by assumption) (J_iconst (pq := 45) dX9_close_44 rfl c_iconst_1 (J_iadd (pq := 46) dX9_close_45 rfl (J_iload_n (pq := 47) dX9_close_46 rfl rfl (J_iadd (pq := 48) dX9_close_47 rfl (?_)))))))))))
  rw [s2]
  refine J_statF (pq := 51) dX9_close_48 rfl (j_X9_lesser (a := 1000001) (by omega) (by omega)) rfl tg_X9_lesser l_X9_266 st_X9_lesser (Nat.le_of_ble_eq_true rfl) (Nat.zero_le _) (Nat.zero_le _) (Nat.le_of_ble_eq_true rfl) (J_putI (pq := 54) dX9_close_51 rfl f_X9_262 (Or.inl rfl) (hKg.at rfl) (J_vret dX9_close_54 rfl ?_))
  exact ⟨rfl, by rw [← hg]; rfl⟩
end P2
