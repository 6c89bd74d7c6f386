-- both halves: a chip is put in
def mChip (g : JH) (nc : Nat) (sz id er le mo be ex li : Int32) : JH := si (rowN (si (si (si (si (si (si (si (si g 44 nc sz) 45 nc id) 46 nc er) 47 nc le) 48 nc mo) 49 nc be) 50 nc ex) 51 nc li) (64 * nc) 64 fCh) 38 12 (nI (nc + 1))
def xChip (G : JH) (q nc : Nat) (le mo be ex li : Int32) : JH := si (sr (si (si (si (si (si G q 3 le) q 4 mo) q 5 be) q 6 ex) q 7 li) 11 nc (some q)) 0 7 (nI (nc + 1))
section Z9
variable {x : JX} {h g G : JH} {L L' nc q : Nat} {sz id er le mo be ex li : Int32}
theorem fCh_o {a : Nat} {w : Int32} (ha : ¬ (a = 54 ∨ a = 55 ∨ a = 56 ∨ a = 58)) : fCh a w = w := by unfold fCh; rw [if_neg (by omega), if_neg (by omega), if_neg (by omega), if_neg (by omega)]
theorem mChip_k (a b : Nat) (h12 : ¬ (a = 38 ∧ b = 12)) : gi (mChip g nc sz id er le mo be ex li) a b = if 64 * nc ≤ b ∧ b < 64 * nc + 64 then fCh a (if a = 51 ∧ b = nc then li else if a = 50 ∧ b = nc then ex else if a = 49 ∧ b = nc then be else if a = 48 ∧ b = nc then mo else if a = 47 ∧ b = nc then le else if a = 46 ∧ b = nc then er else if a = 45 ∧ b = nc then id else if a = 44 ∧ b = nc then sz else gi g a b) else (if a = 51 ∧ b = nc then li else if a = 50 ∧ b = nc then ex else if a = 49 ∧ b = nc then be else if a = 48 ∧ b = nc then mo else if a = 47 ∧ b = nc then le else if a = 46 ∧ b = nc then er else if a = 45 ∧ b = nc then id else if a = 44 ∧ b = nc then sz else gi g a b) := by
  unfold mChip
  rw [gi_si, if_neg h12, gi_rowN]
  simp only [gi_si]
theorem mChip_o {a b : Nat} (h12 : ¬ (a = 38 ∧ b = 12)) (h2 : ¬ (44 ≤ a ∧ a ≤ 51 ∧ b = nc)) (h3 : ¬ ((a = 54 ∨ a = 55 ∨ a = 56 ∨ a = 58) ∧ 64 * nc ≤ b ∧ b < 64 * nc + 64)) : gi (mChip g nc sz id er le mo be ex li) a b = gi g a b := by
  rw [mChip_k a b h12, if_neg (show ¬ (a = 51 ∧ b = nc) by omega), if_neg (show ¬ (a = 50 ∧ b = nc) by omega), if_neg (show ¬ (a = 49 ∧ b = nc) by omega), if_neg (show ¬ (a = 48 ∧ b = nc) by omega), if_neg (show ¬ (a = 47 ∧ b = nc) by omega), if_neg (show ¬ (a = 46 ∧ b = nc) by omega), if_neg (show ¬ (a = 45 ∧ b = nc) by omega), if_neg (show ¬ (a = 44 ∧ b = nc) by omega)]
  split
  · exact fCh_o (by omega)
  · rfl
theorem mChip_f : gi (mChip g nc sz id er le mo be ex li) 44 nc = sz ∧ gi (mChip g nc sz id er le mo be ex li) 45 nc = id ∧ gi (mChip g nc sz id er le mo be ex li) 46 nc = er ∧ gi (mChip g nc sz id er le mo be ex li) 47 nc = le ∧ gi (mChip g nc sz id er le mo be ex li) 48 nc = mo ∧ gi (mChip g nc sz id er le mo be ex li) 49 nc = be ∧ gi (mChip g nc sz id er le mo be ex li) 50 nc = ex ∧ gi (mChip g nc sz id er le mo be ex li) 51 nc = li := by
  have k : ∀ a, 44 ≤ a → a ≤ 51 → gi (mChip g nc sz id er le mo be ex li) a nc = if a = 51 ∧ nc = nc then li else if a = 50 ∧ nc = nc then ex else if a = 49 ∧ nc = nc then be else if a = 48 ∧ nc = nc then mo else if a = 47 ∧ nc = nc then le else if a = 46 ∧ nc = nc then er else if a = 45 ∧ nc = nc then id else if a = 44 ∧ nc = nc then sz else gi g a nc := fun a p1 p2 => by
    rw [mChip_k a nc (by omega), fCh_o (by omega)]
    split <;> rfl
  refine ⟨?_, ?_, ?_, ?_, ?_, ?_, ?_, ?_⟩
  · rw [k _ (by omega) (by omega)]; simp
  · rw [k _ (by omega) (by omega)]; simp
  · rw [k _ (by omega) (by omega)]; simp
  · rw [k _ (by omega) (by omega)]; simp
  · rw [k _ (by omega) (by omega)]; simp
  · rw [k _ (by omega) (by omega)]; simp
  · rw [k _ (by omega) (by omega)]; simp
  · rw [k _ (by omega) (by omega)]; simp
theorem mChip_r {b : Nat} (hb : b < 64) : gi (mChip g nc sz id er le mo be ex li) 54 (64 * nc + b) = 255 ∧ gi (mChip g nc sz id er le mo be ex li) 55 (64 * nc + b) = 255 ∧ gi (mChip g nc sz id er le mo be ex li) 56 (64 * nc + b) = 3 ∧ gi (mChip g nc sz id er le mo be ex li) 58 (64 * nc + b) = -1 := by
  refine ⟨?_, ?_, ?_, ?_⟩
  · rw [mChip_k _ _ (by omega), if_pos (by omega)]; rfl
  · rw [mChip_k _ _ (by omega), if_pos (by omega)]; rfl
  · rw [mChip_k _ _ (by omega), if_pos (by omega)]; rfl
  · rw [mChip_k _ _ (by omega), if_pos (by omega)]; rfl
theorem xChip_k (a b : Nat) : gi (xChip G q nc le mo be ex li) a b = if a = 0 ∧ b = 7 then nI (nc + 1) else if a = q ∧ b = 7 then li else if a = q ∧ b = 6 then ex else if a = q ∧ b = 5 then be else if a = q ∧ b = 4 then mo else if a = q ∧ b = 3 then le else gi G a b := by
  unfold xChip
  rw [gi_si, gi_sr]
  simp only [gi_si]
theorem xChip_o {a b : Nat} (h7 : ¬ (a = 0 ∧ b = 7)) (hq : ¬ (a = q ∧ 3 ≤ b ∧ b ≤ 7)) : gi (xChip G q nc le mo be ex li) a b = gi G a b := by
  rw [xChip_k, if_neg h7, if_neg (by omega), if_neg (by omega), if_neg (by omega), if_neg (by omega), if_neg (by omega)]
theorem xChip_f (hq : q ≠ 0) : gi (xChip G q nc le mo be ex li) q 3 = le ∧ gi (xChip G q nc le mo be ex li) q 4 = mo ∧ gi (xChip G q nc le mo be ex li) q 5 = be ∧ gi (xChip G q nc le mo be ex li) q 6 = ex ∧ gi (xChip G q nc le mo be ex li) q 7 = li := by
  refine ⟨?_, ?_, ?_, ?_, ?_⟩ <;> rw [xChip_k, if_neg (by omega)] <;> simp
theorem RR.c' {ρ : Nat → Nat} (hR : RR h ρ) (ek : ∀ (a : Nat) (b : Nat × Nat), (kd h)[a]? = some b → (kd g)[a]? = some b) (er : ∀ a b, a < 38 → a ≠ 11 → gr g a b = gr h a b) (e1 : ∀ a b, 13 ≤ a → a < 38 → gi g a b = gi h a b) (e2 : ∀ a b, 61 ≤ a → a ≤ 67 → gi g a b = gi h a b) : RR g ρ := by
  obtain ⟨r1, r2, r3, r4, r5, r6⟩ := hR
  refine ⟨r1, r2, fun r hr => by rw [er _ _ (by omega) (by omega)]; exact r3 r hr, by rw [er _ _ (by omega) (by omega)]; exact r4, fun r hr => ?_, fun r hr => ?_⟩
  · have h13 := r1 r hr
    obtain ⟨⟨hd0, hd1, hd2, hd3, hd4⟩, hq0, hq1, hq2, hq3⟩ := r5 r hr
    exact ⟨⟨ek _ _ hd0, ek _ _ hd1, ek _ _ hd2, ek _ _ hd3, ek _ _ hd4⟩, by rw [er _ _ (by omega) (by omega)]; exact hq0, by rw [er _ _ (by omega) (by omega)]; exact hq1, by rw [er _ _ (by omega) (by omega)]; exact hq2, by rw [er _ _ (by omega) (by omega)]; exact hq3⟩
  · have h13 := r1 r (by omega)
    obtain ⟨tc, e, o1, o2, o3⟩ := r6 r hr
    exact ⟨tc, e, o1, o2.c o3.1 ek (fun b => er _ _ (by omega) (by omega)) (fun a b q1 q2 => e1 _ _ (by omega) (by omega)), MRec_congr o3 (fun a b q1 q2 => e2 a b q1 q2)⟩
theorem z_chip (hR : REL h L) (hL : L ≤ 512) (her : er = 0 ∨ er = 1) : GLU x yX8_chip cX8_chip 11 yX9_chip cX9_chip 11 .int 3 1 8 373 [.int sz, .int id, .int er, .int le, .int mo, .int be, .int ex, .int li] h L := by
  have hR0 := hR
  obtain ⟨hK, hX, hM, h1, h2, h3, h4, ⟨nc, q, s, hC⟩, ⟨ρ, h6⟩, h7⟩ := hR
  have hW := hC.mw hK hM
  have hC0 := hC
  obtain ⟨c1, c2, c3, c4, c5, c6⟩ := hC
  have hl := hK.len
  by_cases ho : chOk sz id le mo be ex li nc = true
  · have ho' : (szOk sz && isin id 0 255 && isin le 1 30 && isin mo le 30 && isin be 1 200 && isin ex 0 5 && isin li 0 50 && decide (nc < 4)) = true := ho
    obtain ⟨ho', o8⟩ := Bool.and_eq_true_iff.mp ho'
    obtain ⟨ho', o7⟩ := Bool.and_eq_true_iff.mp ho'
    obtain ⟨ho', o6⟩ := Bool.and_eq_true_iff.mp ho'
    obtain ⟨ho', o5⟩ := Bool.and_eq_true_iff.mp ho'
    obtain ⟨ho', o4⟩ := Bool.and_eq_true_iff.mp ho'
    obtain ⟨ho', o3⟩ := Bool.and_eq_true_iff.mp ho'
    obtain ⟨o1, o2⟩ := Bool.and_eq_true_iff.mp ho'
    have hnc : nc < 4 := of_decide_eq_true o8
    obtain ⟨t, t1, t2, rfl⟩ := szOk_n o1
    have hbe : ∃ b, b ≤ 200 ∧ be = nI b := by
      have z := isin_t.mp o5
      rw [show (1 : Int32).toInt = 1 from rfl, show (200 : Int32).toInt = 200 from rfl] at z
      exact (isK (v := be) (n := 200) (by omega)).mp (isin_t.mpr ⟨by rw [show (0 : Int32).toInt = 0 from rfl]; omega, by rw [nI_toInt (by omega)]; omega⟩)
    have hand : er &&& 1 = er := by rcases her with rfl | rfl <;> rfl
    have jc := j_X8_chip (x := x) hK hX c2 c1 (q := (kd h).length) rfl hl (by omega) t1 t2 her ho
    obtain ⟨n1, n2, n3, n4, n5, n6, n7, n8, n9, n10⟩ := ch_N (h := h) (id := id) (er := er) (q := (kd h).length) rfl t1 t2
    generalize hG : ch9 h (kd h).length t id er = G at jc n1 n2 n3 n4 n5 n6 n7 n8 n9 n10
    have jc : JF x yX8_chip cX8_chip 11 (some .int) 3 8 373 [.ref 0, .int (nI (8 * t)), .int id, .int er, .int le, .int mo, .int be, .int ex, .int li] h (some (.int (nI nc))) (xChip G (kd h).length nc le mo be ex li) := jc
    have xo := fun a b => xChip_o (G := G) (q := (kd h).length) (nc := nc) (le := le) (mo := mo) (be := be) (ex := ex) (li := li) (a := a) (b := b)
    have xf := xChip_f (G := G) (q := (kd h).length) (nc := nc) (le := le) (mo := mo) (be := be) (ex := ex) (li := li) (by omega)
    have x7 : gi (xChip G (kd h).length nc le mo be ex li) 0 7 = nI (nc + 1) := by rw [xChip_k, if_pos ⟨rfl, rfl⟩]
    have xr : ∀ a b, gr (xChip G (kd h).length nc le mo be ex li) a b = if a = 11 ∧ b = nc then some (kd h).length else gr G a b := fun a b => rfl
    have xl : ∀ a b, gl (xChip G (kd h).length nc le mo be ex li) a b = gl G a b := fun a b => rfl
    have xk : kd (xChip G (kd h).length nc le mo be ex li) = kd G := rfl
    generalize hg1 : xChip G (kd h).length nc le mo be ex li = g1 at jc xo xf x7 xr xl xk
    refine ⟨_, jc, fun v' g' qq => ?_⟩
    obtain ⟨rfl, eg'⟩ := qq
    rw [eg']
    have hk1 : kd g1 = kd h ++ [(0, 17), (52, 8), (52, 28), (50, 8 * t), (50, 8 * t), (50, 8 * t), (50, 8 * t), (50, 8 * t)] := xk.trans n1
    have hK1 : Kin g1 := by obtain ⟨r', hr'⟩ := hK; exact ⟨r' ++ _, by rw [hk1, hr', List.append_assoc]⟩
    have hM1 : MR g1 := fun k a hk => by rw [xr, if_neg (by omega), n9 _ _ (by omega)]; exact hM k a hk
    have lo : ∀ a b, a < (kd h).length → ¬ (a = 0 ∧ b = 7) → gi g1 a b = gi h a b := fun a b p1 p2 => by rw [xo a b p2 (by omega), n8 a b p1]
    have hW1 : MW g1 nc s := by
      obtain ⟨-, -, w1, w2, w3⟩ := hW
      exact ⟨hK1, hM1, by rw [lo _ _ (by omega) (by omega)]; exact w1, w2, fun i hi => by rw [lo _ _ (by omega) (by omega)]; exact w3 i hi⟩
    refine ⟨_, _, rfl, hW1.1, j_X9_chip hW1, fun v2 r q2 => ?_⟩
    obtain ⟨rfl, rfl⟩ := q2
    have ho2 : (isin (nI (8 * t)) 8 64 && decide (nI (8 * t) - nI (8 * t) / 8 * 8 = 0) && isin id 0 255 && isin le 1 30 && isin mo le 30 && isin be 1 200 && isin ex 0 5 && isin li 0 50 && decide (nc < 4)) = true := ho
    rw [if_pos ho2, if_pos ho2, hand]
    refine ⟨rfl, ?_⟩
    show REL (mChip g1 nc (nI (8 * t)) id er le mo be ex li) (L + 1)
    have mo_ := fun a b => mChip_o (g := g1) (nc := nc) (sz := nI (8 * t)) (id := id) (er := er) (le := le) (mo := mo) (be := be) (ex := ex) (li := li) (a := a) (b := b)
    obtain ⟨f44, f45, f46, f47, f48, f49, f50, f51⟩ := mChip_f (g := g1) (nc := nc) (sz := nI (8 * t)) (id := id) (er := er) (le := le) (mo := mo) (be := be) (ex := ex) (li := li)
    have mr_ := fun b => mChip_r (g := g1) (nc := nc) (sz := nI (8 * t)) (id := id) (er := er) (le := le) (mo := mo) (be := be) (ex := ex) (li := li) (b := b)
    have m12 : gi (mChip g1 nc (nI (8 * t)) id er le mo be ex li) 38 12 = nI (nc + 1) := by unfold mChip; rw [gi_si, if_pos ⟨rfl, rfl⟩]
    have rr : ∀ a b, gr (mChip g1 nc (nI (8 * t)) id er le mo be ex li) a b = gr g1 a b := fun a b => rfl
    have rl : ∀ a b, gl (mChip g1 nc (nI (8 * t)) id er le mo be ex li) a b = gl g1 a b := fun a b => rfl
    have rk : kd (mChip g1 nc (nI (8 * t)) id er le mo be ex li) = kd g1 := rfl
    generalize hr : mChip g1 nc (nI (8 * t)) id er le mo be ex li = r at *
    have o : ∀ a b, a < (kd h).length → ¬ (a = 0 ∧ b = 7) → ¬ (a = 38 ∧ b = 12) → ¬ (44 ≤ a ∧ a ≤ 51 ∧ b = nc) → ¬ ((a = 54 ∨ a = 55 ∨ a = 56 ∨ a = 58) ∧ 64 * nc ≤ b ∧ b < 64 * nc + 64) → gi r a b = gi h a b := fun a b p1 p2 p3 p4 p5 => by rw [mo_ a b p3 p4 p5, lo a b p1 p2]
    have og : ∀ a b, a < (kd h).length → ¬ (a = 11 ∧ b = nc) → gr r a b = gr h a b := fun a b p1 p2 => by rw [rr, xr, if_neg p2, n9 a b p1]
    have ol : ∀ a b, a < (kd h).length → gl r a b = gl h a b := fun a b p1 => by rw [rl, xl, n10 a b p1]
    have ok : ∀ (a : Nat) (b : Nat × Nat), (kd h)[a]? = some b → (kd r)[a]? = some b := fun a b hb => by
      rw [rk, hk1, List.getElem?_append_left (List.getElem?_eq_some_iff.mp hb).1]; exact hb
    have hlen : (kd r).length = (kd h).length + 8 := by rw [rk, hk1, List.length_append]; rfl
    obtain ⟨y1, y2, y3, y4, y5⟩ := c6 nc (Nat.le_refl _) hnc
    have hN : RC1 r nc (kd h).length t (L + 1) := by
      have rq : ∀ a b, (kd h).length ≤ a → gi r a b = gi g1 a b := fun a b p => mo_ a b (by omega) (by omega) (by omega)
      have rq0 : ∀ b, ¬ (3 ≤ b ∧ b ≤ 7) → gi r (kd h).length b = gi G (kd h).length b := fun b p => by rw [rq _ _ (by omega), xo _ _ (by omega) (by omega)]
      have rq1 : ∀ a b, (kd h).length < a → gi r a b = gi G a b := fun a b p => by rw [rq _ _ (by omega), xo _ _ (by omega) (by omega)]
      refine ⟨n2.mono (fun a b hb => by rw [rk, xk]; exact hb) (fun b => by rw [rr, xr, if_neg (by omega)]) (rq0 0 (by omega)), f44, ⟨?_, ?_, ?_, ?_, ?_, ?_, ?_, ?_⟩, ?_, ⟨0, by omega, ?_, ?_⟩, fun a ha => ?_, fun b hb => ?_, fun p hp => ?_⟩
      · rw [rq0 1 (by omega), n3, f45]
      · rw [rq0 2 (by omega), n4, f46]
      · rw [rq _ _ (by omega), xf.1, f47]
      · rw [rq _ _ (by omega), xf.2.1, f48]
      · rw [rq _ _ (by omega), xf.2.2.1, f49]
      · rw [rq _ _ (by omega), xf.2.2.2.1, f50]
      · rw [rq _ _ (by omega), xf.2.2.2.2, f51]
      · rw [rq0 15 (by omega), n5 15 (by omega), o 52 nc (by omega) (by omega) (by omega) (by omega) (by omega)]; exact y1.symm
      · obtain ⟨b, b1, b2⟩ := hbe; exact ⟨b, b1, f49.trans b2⟩
      · rw [rq0 16 (by omega), n5 16 (by omega)]; rfl
      · rw [ol _ _ (by omega)]; exact y2
      · obtain ⟨w1, w2, w3, w4, w5⟩ := n6 a ha
        obtain ⟨v1, v2, v3, v4⟩ := mr_ a (by omega)
        have v5 : gi r 57 (64 * nc + a) = 0 := by rw [o _ _ (by omega) (by omega) (by omega) (by omega) (by omega)]; exact y3 a (by omega)
        exact ⟨by rw [rq1 _ _ (by omega), w1, v1], by rw [rq1 _ _ (by omega), w2, v2], by rw [rq1 _ _ (by omega), w3, v3], by rw [rq1 _ _ (by omega), w4, v5], by rw [rq1 _ _ (by omega), w5, v4], ⟨255, by omega, v1⟩, ⟨255, by omega, v2⟩⟩
      · rw [rq1 _ _ (by omega), (n7 b).1, o _ _ (by omega) (by omega) (by omega) (by omega) (by omega)]; exact (y4 b hb).symm
      · rw [rq1 _ _ (by omega), (n7 p).2, o _ _ (by omega) (by omega) (by omega) (by omega) (by omega)]; exact (y5 p hp).symm
    refine ⟨by obtain ⟨r', hr'⟩ := hK1; exact ⟨r', by rw [rk]; exact hr'⟩, fun a k b hk => ?_, fun k a hk => by rw [rr]; exact hM1 k a hk, h1.c (o _ _ (by omega) (by omega) (by omega) (by omega) (by omega)) (o _ _ (by omega) (by omega) (by omega) (by omega) (by omega)) (fun j => o _ _ (by omega) (by omega) (by omega) (by omega) (by omega)) (fun j => o _ _ (by omega) (by omega) (by omega) (by omega) (by omega)), h2.c (fun j _ => o _ _ (by omega) (by omega) (by omega) (by omega) (by omega)) (fun j _ => o _ _ (by omega) (by omega) (by omega) (by omega) (by omega)), h3.c (o _ _ (by omega) (by omega) (by omega) (by omega) (by omega)) (o _ _ (by omega) (by omega) (by omega) (by omega) (by omega)) (o _ _ (by omega) (by omega) (by omega) (by omega) (by omega)) (o _ _ (by omega) (by omega) (by omega) (by omega) (by omega)), h4.c (by omega) (o _ _ (by omega) (by omega) (by omega) (by omega) (by omega)) (ol _ _ (by omega)), ⟨nc + 1, fun i => if i = nc then (kd h).length else q i, fun i => if i = nc then t else s i, by omega, ?_, m12, fun i hi => ?_, fun i j hi hj => ?_, fun i hi hi4 => ?_⟩, ⟨ρ, h6.c' ok (fun a b ha ha' => og _ _ (by omega) (by omega)) (fun a b p1 p2 => o _ _ (by omega) (by omega) (by omega) (by omega) (by omega)) (fun a b p1 p2 => o _ _ (by omega) (by omega) (by omega) (by omega) (by omega))⟩, by omega⟩
    · have h38 : a < 38 ∧ a ≠ 11 := by unfold xrt at hk; split at hk <;> first | omega | cases hk
      rw [og _ _ (by omega) (by omega)]; exact hX a k b hk
    · rw [mo_ _ _ (by omega) (by omega) (by omega)]; exact x7
    · by_cases hin : i = nc
      · simp only [if_pos hin]
        rw [hin]
        exact ⟨by rw [rr, xr, if_pos ⟨rfl, rfl⟩], hl, by omega, hN⟩
      · simp only [if_neg hin]
        obtain ⟨z1, z2, z3, z4⟩ := c4 i (by omega)
        refine ⟨by rw [og _ _ (by omega) (by omega)]; exact z1, z2, by omega, z4.o (by omega) z4.1.2.2.2.2 ok (fun b => og _ _ (by omega) (by omega)) (fun a b p1 p2 => o _ _ (by omega) (by omega) (by omega) (by omega) (by omega)) (fun a p1 p2 => o _ _ (by omega) (by omega) (by omega) (by omega) (by omega)) (fun a b p1 p2 p3 => o _ _ (by omega) (by omega) (by omega) (by omega) (by omega)) (fun b p => o _ _ (by omega) (by omega) (by omega) (by omega) (by omega)) (fun b p => o _ _ (by omega) (by omega) (by omega) (by omega) (by omega)) (ol _ _ (by omega))⟩
    · simp only
      by_cases hjn : j = nc
      · rw [if_pos hjn, if_neg (by omega)]
        exact (c4 i (by omega)).2.2.1
      · rw [if_neg hjn, if_neg (by omega)]
        exact c5 i j hi (by omega)
    · obtain ⟨z1, z2, z3, z4, z5⟩ := c6 i (by omega) hi4
      exact ⟨by rw [o _ _ (by omega) (by omega) (by omega) (by omega) (by omega)]; exact z1, by rw [ol _ _ (by omega)]; exact z2, fun a ha => by rw [o _ _ (by omega) (by omega) (by omega) (by omega) (by omega)]; exact z3 a ha, fun b hb => by rw [o _ _ (by omega) (by omega) (by omega) (by omega) (by omega)]; exact z4 b hb, fun p hp => by rw [o _ _ (by omega) (by omega) (by omega) (by omega) (by omega)]; exact z5 p hp⟩
  · rw [Bool.not_eq_true] at ho
    refine ⟨_, j_X8_chip_no hK hX c2 c1 ho, fun v' h1 qq => ?_⟩
    obtain ⟨rfl, rfl⟩ := qq
    refine ⟨_, _, rfl, hW.1, j_X9_chip hW, fun v2 h2 q2 => ?_⟩
    obtain ⟨rfl, rfl⟩ := q2
    have ho2 : (isin sz 8 64 && decide (sz - sz / 8 * 8 = 0) && isin id 0 255 && isin le 1 30 && isin mo le 30 && isin be 1 200 && isin ex 0 5 && isin li 0 50 && decide (nc < 4)) = false := ho
    rw [ho2, if_neg (by decide), if_neg (by decide)]
    exact ⟨rfl, hR0.same (by omega) rfl (fun _ _ _ => rfl)⟩
end Z9
