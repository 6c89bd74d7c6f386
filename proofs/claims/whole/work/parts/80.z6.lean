-- both halves: writing the tape, wiping a chip
def Tn (h0 h : JH) (l : List Int32) : Prop := gi h 38 2 = nI l.length ∧ ∀ j, l.length ≤ j → gi h 40 j = gi h0 40 j
theorem Tn.add {h0 h : JH} {l : List Int32} (hT : Tn h0 h l) (hl : l.length < 2147483647) (b : Int32) : Tn h0 (mAdd h b) (l ++ [b]) := by
  refine ⟨by rw [mAdd_n, hT.1, nI_1]; simp, fun j hj => ?_⟩
  simp only [List.length_append, List.length_cons, List.length_nil] at hj
  simp only [mAdd, gi_si, hT.1, ixn (show l.length < 2147483648 by omega)]
  rw [if_neg (by omega), if_neg (by omega)]
  exact hT.2 j (by omega)
theorem Tn.of_si {h0 h : JH} {l : List Int32} (hT : Tn h0 h l) {o k : Nat} {v : Int32} (h1 : ¬ (o = 38 ∧ k = 2)) (h2 : o ≠ 40) : Tn h0 (si h o k v) l := by
  refine ⟨?_, fun j hj => ?_⟩
  · rw [gi_si, if_neg (fun a => h1 ⟨a.1.symm, a.2.symm⟩)]; exact hT.1
  · rw [gi_si, if_neg (fun a => h2 a.1.symm)]; exact hT.2 j hj
theorem Tn.byte {h0 h : JH} {l : List Int32} (hT : Tn h0 h l) (hl : l.length < 2147483640) (b : Nat) : Tn h0 (wB h b) (l ++ byteL b) := by
  have h1 := (hT.add (by omega) (hexd (b / 16))).add (by simp; omega) (hexd (b % 16))
  rw [List.append_assoc] at h1
  exact Tn.of_si h1 (by decide) (by decide)
theorem Tn.bytes {h0 : JH} : ∀ (bs : List Nat) {h : JH} {l : List Int32}, Tn h0 h l → l.length + 2 * bs.length < 2147483640 → Tn h0 (wBs h bs) (l ++ bs.flatMap byteL)
  | [], h, l, hT, _ => by simpa [wBs] using hT
  | b :: bs, h, l, hT, hl => by
    have := Tn.bytes bs (hT.byte (by simp at hl; omega) b) (by simp [byteL] at hl ⊢; omega)
    simpa [wBs, List.append_assoc] using this
theorem Tn.line {h0 h : JH} {l : List Int32} (hT : Tn h0 h l) {fm kn ad m : Nat} {f : Nat → Nat} (hl : l.length < 1000000) (hm : m < 1000) : Tn h0 (wLine h fm kn ad m f) (l ++ lnL fm kn ad m f) := by
  have h0' : Tn h0 (si h 38 11 0) l := hT.of_si (by decide) (by decide)
  have h1 : Tn h0 (mPre h fm kn) (l ++ lnP fm kn) := by
    unfold mPre lnP
    split
    · exact h0'.add (by omega) 58
    · have := (h0'.add (by omega) 83).add (by simp; omega) (nI (48 + kn))
      simpa using this
  have hp : (lnP fm kn).length ≤ 2 := by unfold lnP; split <;> simp
  have hb : (lnB fm kn ad m f).length ≤ m + 4 := by unfold lnB; split <;> simp [dat_len] <;> omega
  have h2 := Tn.bytes (lnB fm kn ad m f) h1 (by simp only [List.length_append]; omega)
  have h3 := h2.byte (by simp only [List.length_append, flat_len]; omega) (lnC fm (lnB fm kn ad m f).sum)
  have h4 := h3.add (by simp only [List.length_append, flat_len, byteL, List.length_cons, List.length_nil]; omega) 10
  unfold lnL wLine
  simpa [List.append_assoc] using h4
theorem wN_Tn (h : JH) (fm a b : Nat) (f : Nat → Nat) (hab : a ≤ b) (hb : b < 256) : ∀ k, k ≤ (b - a) / 16 + 1 → Tn h (wN h fm a b f k) (lsN fm a b f k)
  | 0, _ => ⟨by show gi (si h 38 2 0) 38 2 = _; rw [gi_si, if_pos ⟨rfl, rfl⟩]; rfl, fun j _ => by show gi (si h 38 2 0) 40 j = _; rw [gi_si, if_neg (by omega)]⟩
  | k + 1, hk => by
    have he : eL fm ≤ 12 := by unfold eL; split <;> omega
    refine (wN_Tn h fm a b f hab hb k (by omega)).line ?_ (by omega)
    rw [lsN_len fm a b f hab k (by omega)]
    have : k * eL fm ≤ 17 * 12 := Nat.mul_le_mul (by omega) he
    omega
theorem mWrite_Tn (h : JH) (fm a b : Nat) (f : Nat → Nat) (hab : a ≤ b) (hb : b < 256) : Tn h (mWrite h fm a b f) (wrL fm a b f) := by
  have he : eL fm ≤ 12 := by unfold eL; split <;> omega
  refine (wN_Tn h fm a b f hab hb _ (Nat.le_refl _)).line ?_ (by omega)
  rw [lsN_len fm a b f hab _ (Nat.le_refl _)]
  have : ((b - a) / 16 + 1) * eL fm ≤ 17 * 12 := Nat.mul_le_mul (by omega) he
  omega
def byt (c : Int32) : Prop := ∃ k, k < 256 ∧ c = nI k
theorem hexd_b {k : Nat} (hk : k < 16) : byt (hexd k) := by
  unfold hexd
  split
  · exact ⟨48 + k, by omega, rfl⟩
  · exact ⟨55 + k, by omega, rfl⟩
theorem byteL_b {b : Nat} (hb : b < 256) : ∀ c ∈ byteL b, byt c := fun c hc => by
  simp only [byteL, List.mem_cons, List.not_mem_nil, or_false] at hc
  rcases hc with rfl | rfl
  · exact hexd_b (by omega)
  · exact hexd_b (by omega)
theorem lnL_b {fm kn ad m : Nat} {f : Nat → Nat} (hkn : kn < 100) (had : ad < 60000) (hm : m ≤ 200) (hf : ∀ k, f k < 256) : ∀ c ∈ lnL fm kn ad m f, byt c := fun c hc => by
  unfold lnL at hc
  simp only [List.mem_append, List.mem_flatMap] at hc
  rcases hc with ((hc | ⟨b, hb, hc⟩) | hc) | hc
  · unfold lnP at hc
    split at hc
    · simp only [List.mem_cons, List.not_mem_nil, or_false] at hc
      exact ⟨58, by omega, hc⟩
    · simp only [List.mem_cons, List.not_mem_nil, or_false] at hc
      rcases hc with rfl | rfl
      · exact ⟨83, by omega, rfl⟩
      · exact ⟨48 + kn, by omega, rfl⟩
  · refine byteL_b ?_ c hc
    unfold lnB at hb
    rcases List.mem_append.mp hb with hb | hb
    · split at hb
      · simp only [List.mem_cons, List.not_mem_nil, or_false] at hb; omega
      · simp only [List.mem_cons, List.not_mem_nil, or_false] at hb; omega
    · unfold dat at hb
      obtain ⟨k, -, rfl⟩ := List.mem_map.mp hb
      exact hf k
  · exact byteL_b (lnC_lt _ _) c hc
  · simp only [List.mem_cons, List.not_mem_nil, or_false] at hc
    exact ⟨10, by omega, hc⟩
theorem lsN_b {fm a b : Nat} {f : Nat → Nat} (ha : a < 256) (hf : ∀ k, f k < 256) : ∀ k, k < 1000 → ∀ c ∈ lsN fm a b f k, byt c
  | 0, _, c, hc => by simp [lsN] at hc
  | k + 1, hk, c, hc => by
    rw [lsN] at hc
    rcases List.mem_append.mp hc with hc | hc
    · exact lsN_b ha hf k (by omega) c hc
    · exact lnL_b (by split <;> omega) (by omega) (by omega) (fun _ => hf _) c hc
theorem wrL_b {fm a b : Nat} {f : Nat → Nat} (ha : a < 256) (hb : b < 256) (hf : ∀ k, f k < 256) : ∀ c ∈ wrL fm a b f, byt c := fun c hc => by
  unfold wrL at hc
  rcases List.mem_append.mp hc with hc | hc
  · exact lsN_b ha hf _ (by omega) c hc
  · exact lnL_b (by split <;> omega) (by omega) (by omega) (fun _ => by omega) c hc
section Z8
variable {x : JX} {h g : JH} {L L' : Nat}
theorem z_write {v a b : Int32} (hR : REL h L) : GLU x yX8_write cX8_write 4 yX9_write cX9_write 8 .int 6 3 0 0 [.int v, .int a, .int b] h L := by
  have hR0 := hR
  obtain ⟨hK, hX, hM, ⟨n, n4, t1, t2, t3, t4⟩, h2, h3, h4, -⟩ := hR
  by_cases hc : (isin v 1 2 && isin a 0 255 && isin b a 255) = true
  · have hc0 := hc
    rw [Bool.and_eq_true, Bool.and_eq_true] at hc
    obtain ⟨⟨o1, o2⟩, o3⟩ := hc
    obtain ⟨a, ha, rfl⟩ := isF o2
    have o4 := isin_t.mp o3
    rw [nI_toInt (by omega), show (255 : Int32).toInt = 255 from rfl] at o4
    obtain ⟨b, hb, rfl⟩ := isF (f := b) (isin_t.mpr ⟨by rw [show (0 : Int32).toInt = 0 from rfl]; omega, by rw [show (255 : Int32).toInt = 255 from rfl]; omega⟩)
    rw [nI_toInt (by omega)] at o4
    have hab : a ≤ b := by omega
    have hfm : ∃ fm, (fm = 1 ∧ v = 1) ∨ (fm = 2 ∧ v = 2) := by
      have z := isin_t.mp o1
      rw [show (1 : Int32).toInt = 1 from rfl, show (2 : Int32).toInt = 2 from rfl] at z
      by_cases hv : v = 1
      · exact ⟨1, Or.inl ⟨rfl, hv⟩⟩
      · exact ⟨2, Or.inr ⟨rfl, ti_eq.mpr (by rw [ti_eq, show (1 : Int32).toInt = 1 from rfl] at hv; rw [show (2 : Int32).toInt = 2 from rfl]; omega)⟩⟩
    obtain ⟨fm, hfm⟩ := hfm
    obtain ⟨f, f1, f2, f3⟩ := h2.fn
    refine ⟨_, j_X8_write hfm hK hX hab hb f1 f2 t1 n4, fun v' h1 qq => ?_⟩
    obtain ⟨rfl, ⟨hw, S, rfl⟩ | ⟨hw, rfl⟩⟩ := qq
    · have hl := wrL_len fm a b f hab
      have hn1 : gi (si h 1 1 0) 1 1 = nI 0 := by rw [gi_si, if_pos ⟨rfl, rfl⟩]; rfl
      have e1 : ∀ p q, p ≠ 2 → p ≠ 7 → ¬ (p = 1 ∧ q = 1) → gi (wT (si h 1 1 0) (wrL fm a b f) S) p q = gi h p q := fun p q p1 p2 p3 => by
        unfold wT; rw [gi_si, if_neg (fun z => p2 z.1), pus_o p1 p3, gi_si, if_neg p3]
      have hbts := wrL_b (fm := fm) (a := a) (b := b) (f := f) (by omega) (by omega) f1
      have e2 : ∀ j, gi (wT (si h 1 1 0) (wrL fm a b f) S) 2 j = if j < wrLen fm a b then (wrL fm a b f).getD j 0 else gi h 2 j := fun j => by
        have e0 : gi (si h 1 1 0) 2 j = gi h 2 j := by rw [gi_si, if_neg (by omega)]
        unfold wT; rw [gi_si, if_neg (by omega), pus_T _ _ 0 hn1 (by omega), hl, e0, Nat.sub_zero]
        by_cases hj : j < wrLen fm a b
        · rw [if_pos ⟨by omega, by omega⟩, if_pos hj]
        · rw [if_neg (by omega), if_neg hj]
      have e3 : gi (wT (si h 1 1 0) (wrL fm a b f) S) 1 1 = nI (wrLen fm a b) := by rw [wT_n hn1, hl, Nat.zero_add]
      have e4 : (wT (si h 1 1 0) (wrL fm a b f) S).2 = h.2 := by show (pus _ _).2 = _; rw [pus_2]; rfl
      generalize hg : wT (si h 1 1 0) (wrL fm a b f) S = h1 at e1 e2 e3 e4
      refine ⟨_, _, rfl, hK.of2 e4, j_X9_write hfm (hK.of2 e4) (hM.of2 e4) hab hb f1 (fun k hk => by rw [e1 _ _ (by omega) (by omega) (by omega)]; exact f3 k hk), fun v2 h2' q2 => ?_⟩
      obtain ⟨rfl, rfl⟩ := q2
      rw [if_pos hw, if_pos hw]
      refine ⟨rfl, ?_⟩
      have hF := mWrite_F h1 fm a b f
      have hT := mWrite_T h1 fm a b f hab (by omega)
      have hTn := mWrite_Tn h1 fm a b f hab (by omega)
      have o : ∀ p q, p ≠ 40 → ¬ (p = 38 ∧ (q = 2 ∨ q = 11)) → p ≠ 2 → p ≠ 7 → ¬ (p = 1 ∧ q = 1) → gi (mWrite h1 fm a b f) p q = gi h p q := fun p q p1 p2 p3 p4 p5 => by rw [hF.2 p q p1 p2, e1 p q p3 p4 p5]
      have t40 : ∀ j, gi (mWrite h1 fm a b f) 40 j = if j < wrLen fm a b then (wrL fm a b f).getD j 0 else gi h 40 j := fun j => by
        by_cases hj : j < wrLen fm a b
        · rw [if_pos hj]
          refine hT.2 j _ ?_
          rw [List.getD_eq_getElem?_getD, List.getElem?_eq_getElem (by omega)]; rfl
        · rw [if_neg hj, hTn.2 j (by omega), e1 _ _ (by omega) (by omega) (by omega)]
      refine hR0.upd (by omega) (by rw [hF.1, e4]) ⟨wrLen fm a b, hw, by rw [hF.2 _ _ (by omega) (by omega)]; exact e3, by rw [hT.1, hl], fun j => ?_, fun j => ?_⟩ (h2.c (fun j _ => o _ _ (by omega) (by omega) (by omega) (by omega) (by omega)) (fun j _ => o _ _ (by omega) (by omega) (by omega) (by omega) (by omega))) (h3.c (o _ _ (by omega) (by omega) (by omega) (by omega) (by omega)) (o _ _ (by omega) (by omega) (by omega) (by omega) (by omega)) (o _ _ (by omega) (by omega) (by omega) (by omega) (by omega)) (o _ _ (by omega) (by omega) (by omega) (by omega) (by omega))) (h4.c (by omega) (o _ _ (by omega) (by omega) (by omega) (by omega) (by omega)) (by show (mWrite _ _ _ _ _).2.1 38 5 = _; rw [hF.1, e4]; rfl)) (fun j _ => by show (mWrite _ _ _ _ _).2.1 53 j = _; rw [hF.1, e4]; rfl) (fun p q z => o _ _ (by omega) (by omega) (by omega) (by omega) (by omega))
      · rw [hF.2 _ _ (by omega) (by omega), e2, t40, t3]
      · rw [t40]
        split
        · refine hbts _ ?_
          rw [List.getD_eq_getElem?_getD, List.getElem?_eq_getElem (by omega)]
          exact List.getElem_mem _
        · exact t4 j
    · refine ⟨_, _, rfl, hK, j_X9_write hfm hK hM hab hb f1 f3, fun v2 h2' q2 => ?_⟩
      obtain ⟨rfl, rfl⟩ := q2
      rw [if_neg hw, if_neg hw]
      exact ⟨rfl, hR0.same (by omega) rfl (fun _ _ _ => rfl)⟩
  · rw [Bool.not_eq_true] at hc
    exact GLU.ro hR0 (j_X8_write_no hK hX hc) (j_X9_write_no hc) rfl
theorem xWipe_o {q s a b : Nat} (h1 : ¬ (a = q ∧ b = 15)) (h2 : ¬ (b < 8 * s ∧ q + 3 ≤ a ∧ a ≤ q + 7)) : gi (xWipe h q s) a b = gi h a b := by
  have e : gi (xWipe0 h q s) a b = gi h a b := by
    unfold xWipe0
    rw [gi_fillN, if_neg (by omega), gi_fillN, if_neg (by omega), gi_fillN, if_neg (by omega), gi_fillN, if_neg (by omega), gi_si, if_neg h1]
  unfold xWipe
  split
  · rw [gi_incN, if_neg (by omega), e]
  · exact e
theorem xWipe_r {q s b : Nat} (hb : b < 8 * s) : gi (xWipe h q s) (q + 3) b = 255 ∧ gi (xWipe h q s) (q + 4) b = 255 ∧ gi (xWipe h q s) (q + 5) b = (if gi h q 7 < gi h q 15 + 1 then gi h (q + 5) b + 1 else gi h (q + 5) b) ∧ gi (xWipe h q s) (q + 6) b = 0 ∧ gi (xWipe h q s) (q + 7) b = -1 := by
  have e3 : gi (xWipe0 h q s) (q + 3) b = 255 := by unfold xWipe0; rw [gi_fillN, if_neg (by omega), gi_fillN, if_neg (by omega), gi_fillN, if_neg (by omega), gi_fillN, if_pos ⟨rfl, hb⟩]
  have e4 : gi (xWipe0 h q s) (q + 4) b = 255 := by unfold xWipe0; rw [gi_fillN, if_neg (by omega), gi_fillN, if_neg (by omega), gi_fillN, if_pos ⟨rfl, hb⟩]
  have e5 : gi (xWipe0 h q s) (q + 5) b = gi h (q + 5) b := by unfold xWipe0; rw [gi_fillN, if_neg (by omega), gi_fillN, if_neg (by omega), gi_fillN, if_neg (by omega), gi_fillN, if_neg (by omega), gi_si, if_neg (by omega)]
  have e6 : gi (xWipe0 h q s) (q + 6) b = 0 := by unfold xWipe0; rw [gi_fillN, if_neg (by omega), gi_fillN, if_pos ⟨rfl, hb⟩]
  have e7 : gi (xWipe0 h q s) (q + 7) b = -1 := by unfold xWipe0; rw [gi_fillN, if_pos ⟨rfl, hb⟩]
  unfold xWipe
  split
  · simp only [gi_incN]
    exact ⟨by rw [if_neg (by omega)]; exact e3, by rw [if_neg (by omega)]; exact e4, by rw [if_pos ⟨trivial, hb⟩, e5], by rw [if_neg (by omega)]; exact e6, by rw [if_neg (by omega)]; exact e7⟩
  · exact ⟨e3, e4, e5, e6, e7⟩
theorem z_erase {v : Int32} (hR : REL h L) : GLU x yX8_erase cX8_erase 3 yX9_erase cX9_erase 3 .int 2 2 0 0 [.int v] h L := by
  have hR0 := hR
  obtain ⟨hK, hX, hM, -, -, -, -, ⟨nc, q, s, hC⟩, -, hl⟩ := hR
  have hW := hC.mw hK hM
  have c12 := hC.2.2.1
  by_cases hv : isin v 0 (nI nc - 1) = true
  · obtain ⟨i, hi, rfl⟩ := (isinN (by have := hC.1; omega)).mp hv
    obtain ⟨y1, y2, y3, y4⟩ := hC.2.2.2.1 i hi
    have hs8 := y4.1.2.2.2.2
    have hi4 : i < 4 := by have := hC.1; omega
    have y40 := y4
    obtain ⟨k1, k2, ⟨d1, d2, d3, d4, d5, d6, d7, d8⟩, -, ⟨m, m1, m2, m3⟩, u5, u6, u7⟩ := y4
    refine ⟨_, j_X8_erase hK hX hC.2.1 hC.1 hi y1 k1, fun v' h1 qq => ?_⟩
    obtain ⟨rfl, rfl⟩ := qq
    by_cases hz : gi h (q i) 2 = 0
    · rw [if_pos hz, if_pos hz]
      refine ⟨_, _, rfl, hW.1, j_X9_erase hW, fun v2 h2 q2 => ?_⟩
      obtain ⟨rfl, rfl⟩ := q2
      have hcc : (isin (nI i) 0 (gi h 38 12 - 1) && decide (¬ gi h 46 (ix (nI i)) = 0)) = false := by
        rw [ixn (by omega), ← d2, hz, Bool.and_eq_false_iff]; exact Or.inr (by decide)
      rw [hcc, if_neg (by decide), if_neg (by decide)]
      exact ⟨rfl, hR0.same (by omega) rfl (fun _ _ _ => rfl)⟩
    · rw [if_neg hz, if_neg hz]
      have oc := fun a b => xWipe_o (h := h) (q := q i) (s := s i) (a := a) (b := b)
      have hr := fun b => xWipe_r (h := h) (q := q i) (s := s i) (b := b)
      have e15 := xWipe_15 (h := h) (q := q i) (s := s i)
      have e2 := xWipe_2 (h := h) (q := q i) (s := s i)
      generalize hg : xWipe h (q i) (s i) = h1 at oc hr e15 e2 ⊢
      have hW1 : MW h1 nc s := hW.of e2 (oc _ _ (by omega) (by omega)) (fun i _ => oc _ _ (by omega) (by omega))
      refine ⟨_, _, rfl, hW1.1, j_X9_erase hW1, fun v2 h2 q2 => ?_⟩
      obtain ⟨rfl, rfl⟩ := q2
      have e52 : gi h1 52 i = gi h 52 i := oc _ _ (by omega) (by omega)
      have e51 : gi h1 51 i = gi h 51 i := oc _ _ (by omega) (by omega)
      have hcc : (isin (nI i) 0 (gi h1 38 12 - 1) && decide (¬ gi h1 46 (ix (nI i)) = 0)) = true := by
        rw [ixn (by omega), oc 38 12 (by omega) (by omega), oc 46 i (by omega) (by omega), c12, hv, ← d2, Bool.true_and]; exact decide_eq_true hz
      rw [hcc, if_pos rfl, if_pos rfl, ixn (by omega)]
      refine ⟨by rw [e52, ← d8], ?_⟩
      have key := gi_rowN (si h1 52 i (gi h1 52 i + 1)) (64 * i) 64 (fEr (decide (gi h1 51 i < gi h1 52 i + 1)))
      have el : (rowN (si h1 52 i (gi h1 52 i + 1)) (64 * i) 64 (fEr (decide (gi h1 51 i < gi h1 52 i + 1)))).2 = h.2 := e2
      generalize hgr : rowN (si h1 52 i (gi h1 52 i + 1)) (64 * i) 64 (fEr (decide (gi h1 51 i < gi h1 52 i + 1))) = r at key el ⊢
      have fo : ∀ (bb : Bool) a w, (a < 54 ∨ 58 < a) → fEr bb a w = w := fun bb a w ha => by unfold fEr; rw [if_neg (by omega), if_neg (by omega), if_neg (by omega), if_neg (by omega), if_neg (by omega)]
      have o1 : ∀ a b, (a < 54 ∨ 58 < a ∨ b < 64 * i ∨ 64 * i + 64 ≤ b) → ¬ (a = 52 ∧ b = i) → gi r a b = gi h1 a b := fun a b p1 p2 => by
        rw [key]
        split
        · rw [fo _ _ _ (by omega), gi_si, if_neg p2]
        · rw [gi_si, if_neg p2]
      have o : ∀ a b, (a < 54 ∨ 58 < a ∨ b < 64 * i ∨ 64 * i + 64 ≤ b) → ¬ (a = 52 ∧ b = i) → ¬ (a = q i ∧ b = 15) → ¬ (b < 8 * s i ∧ q i + 3 ≤ a ∧ a ≤ q i + 7) → gi r a b = gi h a b := fun a b p1 p2 p3 p4 => by rw [o1 a b p1 p2, oc a b p3 p4]
      have r52 : gi r 52 i = gi h 52 i + 1 := by
        rw [key]
        split
        · rw [fo _ _ _ (by omega), gi_si, if_pos ⟨rfl, rfl⟩, e52]
        · rw [gi_si, if_pos ⟨rfl, rfl⟩, e52]
      have er : ∀ a b, gr r a b = gr h a b := fun a b => by show r.2.2.1 a b = _; rw [el]; rfl
      have eL : ∀ a b, gl r a b = gl h a b := fun a b => by show r.2.1 a b = _; rw [el]; rfl
      have ek : kd r = kd h := by show r.2.2.2 = _; rw [el]; rfl
      refine hR0.chp (by omega) (by rw [el]) (eL _ _) (fun a b z => o _ _ (by omega) (by omega) (by omega) (by omega)) ⟨nc, q, s, hC.one (i := i) (by omega) (fun _ _ z => by rw [ek]; exact z) (by rw [ek]; omega) (fun _ _ _ _ => er _ _) (o _ _ (by omega) (by omega) (by omega) (by omega)) (o _ _ (by omega) (by omega) (by omega) (by omega)) (fun a b p1 p2 p3 => o _ _ (by omega) (by omega) (by omega) (by omega)) (fun a j p1 p2 p3 => o _ _ (by omega) (by omega) (by omega) (by omega)) (fun a b p1 p2 p3 => o _ _ (by omega) (by omega) (by omega) (by omega)) (fun b p => o _ _ (by omega) (by omega) (by omega) (by omega)) (fun b p => o _ _ (by omega) (by omega) (by omega) (by omega)) (fun _ _ => eL _ _) hK.len hi ?_⟩
      refine y40.set (fun _ _ z => by rw [ek]; exact z) (fun _ => er _ _) (fun b _ => o _ _ (by omega) (by omega) (by omega) (by omega)) (fun a p1 p2 => o _ _ (by omega) (by omega) (by omega) (by omega)) (by rw [r52, o1 _ _ (by omega) (by omega), e15, d8]) ⟨m, by omega, by rw [o _ _ (by omega) (by omega) (by omega) (by omega)]; exact m2, by rw [eL]; exact m3⟩ (fun a ha => ?_) (fun b hb => by rw [o _ _ (by omega) (by omega) (by omega) (by omega), o _ _ (by omega) (by omega) (by omega) (by omega)]; exact u6 b hb) (fun p hp => by rw [o _ _ (by omega) (by omega) (by omega) (by omega), o _ _ (by omega) (by omega) (by omega) (by omega)]; exact u7 p hp)
      obtain ⟨z1, z2, z3, z4, z5, z6, z7⟩ := u5 a ha
      obtain ⟨w3, w4, w5, w6, w7⟩ := hr a ha
      have kr : ∀ a', 54 ≤ a' → a' ≤ 58 → gi r a' (64 * i + a) = fEr (decide (gi h1 51 i < gi h1 52 i + 1)) a' (gi h1 a' (64 * i + a)) := fun a' p1 p2 => by
        rw [key, if_pos (by omega), gi_si, if_neg (by omega)]
      have k54 : gi r 54 (64 * i + a) = 255 := kr 54 (by omega) (by omega)
      have k55 : gi r 55 (64 * i + a) = 255 := kr 55 (by omega) (by omega)
      have k57 : gi r 57 (64 * i + a) = 0 := kr 57 (by omega) (by omega)
      have k58 : gi r 58 (64 * i + a) = -1 := kr 58 (by omega) (by omega)
      refine ⟨by rw [o1 _ _ (by omega) (by omega), w3, k54], by rw [o1 _ _ (by omega) (by omega), w4, k55], ?_, by rw [o1 _ _ (by omega) (by omega), w6, k57], by rw [o1 _ _ (by omega) (by omega), w7, k58], ⟨255, by omega, k54⟩, ⟨255, by omega, k55⟩⟩
      have hE : ∀ (bb : Bool) (w : Int32), fEr bb 56 w = if bb = true then w + 1 else w := fun bb w => by unfold fEr; simp
      rw [o1 _ _ (by omega) (by omega), w5, kr 56 (by omega) (by omega), hE, e51, e52, d7, d8, oc 56 _ (by omega) (by omega), ← z3]
      simp only [decide_eq_true_eq]
  · rw [Bool.not_eq_true] at hv
    refine ⟨_, j_X8_erase_no hK hX hC.2.1 hC.1 hv, fun v' h1 qq => ?_⟩
    obtain ⟨rfl, rfl⟩ := qq
    refine ⟨_, _, rfl, hW.1, j_X9_erase hW, fun v2 h2 q2 => ?_⟩
    obtain ⟨rfl, rfl⟩ := q2
    rw [c12, hv, Bool.false_and, if_neg (by decide), if_neg (by decide)]
    exact ⟨rfl, hR0.same (by omega) rfl (fun _ _ _ => rfl)⟩
end Z8
